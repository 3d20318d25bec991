def f_L_law_231 (cL : Nat) (cX : Nat → Int32) (k48 : Int32 → (Nat → Int32) → (Nat → Int32) → (Nat → Int32) → k_SB → Option (Int32)) (k122 : Int32 → Int32 → Int32 → (Nat → Int32) → (Nat → Int32) → (Nat → Int32) → k_SB → Option (Int32)) (x5 : Int32) (x7 : Int32) (x8 : Int32) (w_bb : Nat → Int32) (w_m : Nat → Int32) (w_v : Nat → Int32) (σ : k_SB) : Option (Int32) :=
  k122 x5 x7 (x8 + 1) w_bb w_m w_v σ
def f_L_law_190 (cL : Nat) (cX : Nat → Int32) (k48 : Int32 → (Nat → Int32) → (Nat → Int32) → (Nat → Int32) → k_SB → Option (Int32)) (k122 : Int32 → Int32 → Int32 → (Nat → Int32) → (Nat → Int32) → (Nat → Int32) → k_SB → Option (Int32)) (x5 : Int32) (x7 : Int32) (x8 : Int32) (x9 : Int32) (w_bb : Nat → Int32) (w_m : Nat → Int32) (w_v : Nat → Int32) (σ : k_SB) : Option (Int32) :=
  bd (fx_kinds x5 x8 (1 : Int32) σ) fun t1 =>
  lt (ux_kinds σ t1) fun σ2 =>
  if x9 < t1.1 then
    some (0 : Int32)
  else
    (if ((1 : Int32) <<< (x5 &&& 31)) ≤ ((x9 * (4 : Int32)) * x5) then
       (if x7 ≤ x9 then
          f_L_law_231 cL cX k48 k122 x5 x7 x8 w_bb w_m w_v σ2
        else
          f_L_law_231 cL cX k48 k122 x5 x9 x8 w_bb w_m w_v σ2)
     else
       some (0 : Int32))
def f_L_law_122 (cL : Nat) (cX : Nat → Int32) (k48 : Int32 → (Nat → Int32) → (Nat → Int32) → (Nat → Int32) → k_SB → Option (Int32)) : Nat → Int32 → Int32 → Int32 → (Nat → Int32) → (Nat → Int32) → (Nat → Int32) → k_SB → Option (Int32)
  | 0, _, _, _, _, _, _, _ => none
  | n + 1, x5, x7, x8, w_bb, w_m, w_v, σ =>
    if (4 : Int32) ≤ x8 then
      (bd (fx_kinds x5 (3 : Int32) (0 : Int32) σ) fun t2 =>
       lt (ux_kinds σ t2) fun σ3 =>
       if x7 = t2.1 then
         (bd (fx_groundBest σ3) fun t6 =>
          lt (ux_groundBest σ3 t6) fun σ7 =>
          bd (fx_ground t6.1 σ7) fun t9 =>
          lt (ux_ground σ7 t9) fun σ10 =>
          bd (fx_ground x5 σ10) fun t12 =>
          lt (ux_ground σ10 t12) fun σ13 =>
          bd (fx_groundBest σ13) fun t15 =>
          lt (ux_groundBest σ13 t15) fun σ16 =>
          if (t9.1 * x5) ≤ (t12.1 * t15.1) then
            (k48 (x5 + 1) w_bb w_m w_v σ16)
          else
            some (0 : Int32))
       else
         some (0 : Int32))
    else
      (bd (fx_kinds x5 x8 (0 : Int32) σ) fun t19 =>
       lt (ux_kinds σ t19) fun σ20 =>
       if t19.1 < (1 : Int32) then
         some (0 : Int32)
       else
         (bd (fx_kinds x5 (0 : Int32) (0 : Int32) σ20) fun t23 =>
          lt (ux_kinds σ20 t23) fun σ24 =>
          if t23.1 < t19.1 then
            some (0 : Int32)
          else
            (if x8 = (3 : Int32) then
               (bd (fx_kinds x5 (1 : Int32) (0 : Int32) σ24) fun t28 =>
                lt (ux_kinds σ24 t28) fun σ29 =>
                if t28.1 < t19.1 then
                  some (0 : Int32)
                else
                  (bd (fx_kinds x5 (2 : Int32) (0 : Int32) σ29) fun t32 =>
                   lt (ux_kinds σ29 t32) fun σ33 =>
                   if t32.1 < t19.1 then
                     some (0 : Int32)
                   else
                     f_L_law_190 cL cX k48 (fun x5 x7 x8 w_bb w_m w_v σ => f_L_law_122 cL cX k48 n x5 x7 x8 w_bb w_m w_v σ) x5 x7 x8 t19.1 w_bb w_m w_v σ33))
             else
               f_L_law_190 cL cX k48 (fun x5 x7 x8 w_bb w_m w_v σ => f_L_law_122 cL cX k48 n x5 x7 x8 w_bb w_m w_v σ) x5 x7 x8 t19.1 w_bb w_m w_v σ24)))
def f_L_law_589 (cL : Nat) (cX : Nat → Int32) (k286 : Int32 → (Nat → Int32) → (Nat → Int32) → (Nat → Int32) → k_SB → Option (Int32)) (k305 : Int32 → Int32 → Int32 → (Nat → Int32) → (Nat → Int32) → (Nat → Int32) → k_SB → Option (Int32)) (k516 : Int32 → Int32 → Int32 → Int32 → Int32 → Int32 → Int32 → (Nat → Int32) → (Nat → Int32) → (Nat → Int32) → k_SB → Option (Int32)) (x5 : Int32) (x6 : Int32) (x7 : Int32) (x8 : Int32) (x9 : Int32) (x10 : Int32) (x12 : Int32) (s0 : Int32) (s1 : Int32) (w_bb : Nat → Int32) (w_m : Nat → Int32) (w_v : Nat → Int32) (σ : k_SB) : Option (Int32) :=
  if s0 = s1 then
    (k516 x5 x6 x7 x8 x9 x10 (x12 + 1) w_bb w_m w_v σ)
  else
    some (0 : Int32)
def f_L_law_563 (cL : Nat) (cX : Nat → Int32) (k286 : Int32 → (Nat → Int32) → (Nat → Int32) → (Nat → Int32) → k_SB → Option (Int32)) (k305 : Int32 → Int32 → Int32 → (Nat → Int32) → (Nat → Int32) → (Nat → Int32) → k_SB → Option (Int32)) (k516 : Int32 → Int32 → Int32 → Int32 → Int32 → Int32 → Int32 → (Nat → Int32) → (Nat → Int32) → (Nat → Int32) → k_SB → Option (Int32)) (x5 : Int32) (x6 : Int32) (x7 : Int32) (x8 : Int32) (x9 : Int32) (x10 : Int32) (x12 : Int32) (s0 : Int32) (w_bb : Nat → Int32) (w_m : Nat → Int32) (w_v : Nat → Int32) (σ : k_SB) : Option (Int32) :=
  bd (fx_layer x7 x12 σ) fun t1 =>
  lt (ux_layer σ t1) fun σ2 =>
  bd (fx_layer x7 (x12 + (2 : Int32)) σ2) fun t4 =>
  lt (ux_layer σ2 t4) fun σ5 =>
  if t1.1 = t4.1 then
    f_L_law_589 cL cX k286 k305 k516 x5 x6 x7 x8 x9 x10 x12 s0 (1 : Int32) w_bb w_m w_v σ5
  else
    f_L_law_589 cL cX k286 k305 k516 x5 x6 x7 x8 x9 x10 x12 s0 (0 : Int32) w_bb w_m w_v σ5
def f_L_law_1011 (cL : Nat) (cX : Nat → Int32) (k286 : Int32 → (Nat → Int32) → (Nat → Int32) → (Nat → Int32) → k_SB → Option (Int32)) (k305 : Int32 → Int32 → Int32 → (Nat → Int32) → (Nat → Int32) → (Nat → Int32) → k_SB → Option (Int32)) (k957 : Int32 → Int32 → Int32 → Int32 → Int32 → Int32 → Int32 → Int32 → (Nat → Int32) → (Nat → Int32) → (Nat → Int32) → k_SB → Option (Int32)) (x5 : Int32) (x6 : Int32) (x7 : Int32) (x8 : Int32) (x9 : Int32) (x12 : Int32) (x15 : Int32) (x17 : Int32) (w_bb : Nat → Int32) (w_m : Nat → Int32) (w_v : Nat → Int32) (σ : k_SB) : Option (Int32) :=
  k957 x5 x6 x7 x8 x9 x12 x15 (x17 + 1) w_bb w_m w_v σ
def f_L_law_1374 (cL : Nat) (cX : Nat → Int32) (k286 : Int32 → (Nat → Int32) → (Nat → Int32) → (Nat → Int32) → k_SB → Option (Int32)) (k305 : Int32 → Int32 → Int32 → (Nat → Int32) → (Nat → Int32) → (Nat → Int32) → k_SB → Option (Int32)) (k1111 : Int32 → Int32 → Int32 → Int32 → Int32 → Int32 → Int32 → (Nat → Int32) → (Nat → Int32) → (Nat → Int32) → k_SB → Option (Int32)) (k1215 : Int32 → Int32 → Int32 → Int32 → Int32 → Int32 → Int32 → Int32 → Int32 → (Nat → Int32) → (Nat → Int32) → (Nat → Int32) → k_SB → Option (Int32)) (x5 : Int32) (x6 : Int32) (x7 : Int32) (x8 : Int32) (x9 : Int32) (x12 : Int32) (x17 : Int32) (x18 : Int32) (x19 : Int32) (w_bb : Nat → Int32) (w_m : Nat → Int32) (w_v : Nat → Int32) (σ : k_SB) : Option (Int32) :=
  k1215 x5 x6 x7 x8 x9 x12 x17 x18 (x19 + 1) w_bb w_m w_v σ
def f_L_law_1309 (cL : Nat) (cX : Nat → Int32) (k286 : Int32 → (Nat → Int32) → (Nat → Int32) → (Nat → Int32) → k_SB → Option (Int32)) (k305 : Int32 → Int32 → Int32 → (Nat → Int32) → (Nat → Int32) → (Nat → Int32) → k_SB → Option (Int32)) (k1111 : Int32 → Int32 → Int32 → Int32 → Int32 → Int32 → Int32 → (Nat → Int32) → (Nat → Int32) → (Nat → Int32) → k_SB → Option (Int32)) (k1215 : Int32 → Int32 → Int32 → Int32 → Int32 → Int32 → Int32 → Int32 → Int32 → (Nat → Int32) → (Nat → Int32) → (Nat → Int32) → k_SB → Option (Int32)) (x5 : Int32) (x6 : Int32) (x7 : Int32) (x8 : Int32) (x9 : Int32) (x12 : Int32) (x17 : Int32) (x18 : Int32) (x19 : Int32) (x20 : Int32) (s0 : Int32) (s1 : Int32) (w_bb : Nat → Int32) (w_m : Nat → Int32) (w_v : Nat → Int32) (σ : k_SB) : Option (Int32) :=
  if s0 = s1 then
    (if x20 ≤ x8 then
       (bd (fx_alike x7 x19 x17 σ) fun t3 =>
        lt (ux_alike σ t3) fun σ4 =>
        if t3.1 = (1 : Int32) then
          (bd (fx_least x19 x17 σ4) fun t7 =>
           lt (ux_least σ4 t7) fun σ8 =>
           if t7.1 = x18 then
             (bd (fx_energy x19 σ8) fun t11 =>
              lt (ux_energy σ8 t11) fun σ12 =>
              if t11.1 = x12 then
                (bd (fx_differs x7 x19 σ12) fun t15 =>
                 lt (ux_differs σ12 t15) fun σ16 =>
                 if t15.1 = (-2 : Int32) then
                   f_L_law_1374 cL cX k286 k305 k1111 k1215 x5 x6 x7 x8 x9 x12 x17 x18 x19 w_bb w_m w_v σ16
                 else
                   some (0 : Int32))
              else
                some (0 : Int32))
           else
             some (0 : Int32))
        else
          f_L_law_1374 cL cX k286 k305 k1111 k1215 x5 x6 x7 x8 x9 x12 x17 x18 x19 w_bb w_m w_v σ4)
     else
       some (0 : Int32))
  else
    some (0 : Int32)
def f_L_law_1292 (cL : Nat) (cX : Nat → Int32) (k286 : Int32 → (Nat → Int32) → (Nat → Int32) → (Nat → Int32) → k_SB → Option (Int32)) (k305 : Int32 → Int32 → Int32 → (Nat → Int32) → (Nat → Int32) → (Nat → Int32) → k_SB → Option (Int32)) (k1111 : Int32 → Int32 → Int32 → Int32 → Int32 → Int32 → Int32 → (Nat → Int32) → (Nat → Int32) → (Nat → Int32) → k_SB → Option (Int32)) (k1215 : Int32 → Int32 → Int32 → Int32 → Int32 → Int32 → Int32 → Int32 → Int32 → (Nat → Int32) → (Nat → Int32) → (Nat → Int32) → k_SB → Option (Int32)) (x5 : Int32) (x6 : Int32) (x7 : Int32) (x8 : Int32) (x9 : Int32) (x12 : Int32) (x17 : Int32) (x18 : Int32) (x19 : Int32) (x20 : Int32) (s0 : Int32) (w_bb : Nat → Int32) (w_m : Nat → Int32) (w_v : Nat → Int32) (σ : k_SB) : Option (Int32) :=
  bd (fx_stack x19 (0 : Int32) σ) fun t1 =>
  lt (ux_stack σ t1) fun σ2 =>
  if t1.1 = x8 then
    f_L_law_1309 cL cX k286 k305 k1111 k1215 x5 x6 x7 x8 x9 x12 x17 x18 x19 x20 s0 (0 : Int32) w_bb w_m w_v σ2
  else
    f_L_law_1309 cL cX k286 k305 k1111 k1215 x5 x6 x7 x8 x9 x12 x17 x18 x19 x20 s0 (1 : Int32) w_bb w_m w_v σ2
def f_L_law_1279 (cL : Nat) (cX : Nat → Int32) (k286 : Int32 → (Nat → Int32) → (Nat → Int32) → (Nat → Int32) → k_SB → Option (Int32)) (k305 : Int32 → Int32 → Int32 → (Nat → Int32) → (Nat → Int32) → (Nat → Int32) → k_SB → Option (Int32)) (k1111 : Int32 → Int32 → Int32 → Int32 → Int32 → Int32 → Int32 → (Nat → Int32) → (Nat → Int32) → (Nat → Int32) → k_SB → Option (Int32)) (k1215 : Int32 → Int32 → Int32 → Int32 → Int32 → Int32 → Int32 → Int32 → Int32 → (Nat → Int32) → (Nat → Int32) → (Nat → Int32) → k_SB → Option (Int32)) (x5 : Int32) (x6 : Int32) (x7 : Int32) (x8 : Int32) (x9 : Int32) (x12 : Int32) (x17 : Int32) (x18 : Int32) (x19 : Int32) (x20 : Int32) (s0 : Int32) (s1 : Int32) (w_bb : Nat → Int32) (w_m : Nat → Int32) (w_v : Nat → Int32) (σ : k_SB) : Option (Int32) :=
  if s0 = s1 then
    (if 0 ≤ x20 then
       f_L_law_1292 cL cX k286 k305 k1111 k1215 x5 x6 x7 x8 x9 x12 x17 x18 x19 x20 (0 : Int32) w_bb w_m w_v σ
     else
       f_L_law_1292 cL cX k286 k305 k1111 k1215 x5 x6 x7 x8 x9 x12 x17 x18 x19 x20 (1 : Int32) w_bb w_m w_v σ)
  else
    some (0 : Int32)
def f_L_law_1260 (cL : Nat) (cX : Nat → Int32) (k286 : Int32 → (Nat → Int32) → (Nat → Int32) → (Nat → Int32) → k_SB → Option (Int32)) (k305 : Int32 → Int32 → Int32 → (Nat → Int32) → (Nat → Int32) → (Nat → Int32) → k_SB → Option (Int32)) (k1111 : Int32 → Int32 → Int32 → Int32 → Int32 → Int32 → Int32 → (Nat → Int32) → (Nat → Int32) → (Nat → Int32) → k_SB → Option (Int32)) (k1215 : Int32 → Int32 → Int32 → Int32 → Int32 → Int32 → Int32 → Int32 → Int32 → (Nat → Int32) → (Nat → Int32) → (Nat → Int32) → k_SB → Option (Int32)) (x5 : Int32) (x6 : Int32) (x7 : Int32) (x8 : Int32) (x9 : Int32) (x12 : Int32) (x17 : Int32) (x18 : Int32) (x19 : Int32) (x20 : Int32) (s0 : Int32) (w_bb : Nat → Int32) (w_m : Nat → Int32) (w_v : Nat → Int32) (σ : k_SB) : Option (Int32) :=
  bd (fx_alike x7 x19 x17 σ) fun t1 =>
  lt (ux_alike σ t1) fun σ2 =>
  if t1.1 = (1 : Int32) then
    f_L_law_1279 cL cX k286 k305 k1111 k1215 x5 x6 x7 x8 x9 x12 x17 x18 x19 x20 s0 (1 : Int32) w_bb w_m w_v σ2
  else
    f_L_law_1279 cL cX k286 k305 k1111 k1215 x5 x6 x7 x8 x9 x12 x17 x18 x19 x20 s0 (0 : Int32) w_bb w_m w_v σ2
def f_L_law_1215 (cL : Nat) (cX : Nat → Int32) (k286 : Int32 → (Nat → Int32) → (Nat → Int32) → (Nat → Int32) → k_SB → Option (Int32)) (k305 : Int32 → Int32 → Int32 → (Nat → Int32) → (Nat → Int32) → (Nat → Int32) → k_SB → Option (Int32)) (k1111 : Int32 → Int32 → Int32 → Int32 → Int32 → Int32 → Int32 → (Nat → Int32) → (Nat → Int32) → (Nat → Int32) → k_SB → Option (Int32)) : Nat → Int32 → Int32 → Int32 → Int32 → Int32 → Int32 → Int32 → Int32 → Int32 → (Nat → Int32) → (Nat → Int32) → (Nat → Int32) → k_SB → Option (Int32)
  | 0, _, _, _, _, _, _, _, _, _, _, _, _, _ => none
  | n + 1, x5, x6, x7, x8, x9, x12, x17, x18, x19, w_bb, w_m, w_v, σ =>
    gd (inR (4 : Int32) 21) <|
    if (w_bb (4 : Int32).toNatClampNeg) ≤ x19 then
      (k1111 x5 x6 x7 x8 x9 x12 (x17 + 1) w_bb w_m w_v σ)
    else
      (bd (fx_slips x7 x19 x17 σ) fun t3 =>
       lt (ux_slips σ t3) fun σ4 =>
       bd (fx_slips x19 x7 x17 σ4) fun t6 =>
       lt (ux_slips σ4 t6) fun σ7 =>
       if t3.1 = t6.1 then
         (if t3.1 = 0 then
            f_L_law_1260 cL cX k286 k305 k1111 (fun x5 x6 x7 x8 x9 x12 x17 x18 x19 w_bb w_m w_v σ => f_L_law_1215 cL cX k286 k305 k1111 n x5 x6 x7 x8 x9 x12 x17 x18 x19 w_bb w_m w_v σ) x5 x6 x7 x8 x9 x12 x17 x18 x19 t3.1 (1 : Int32) w_bb w_m w_v σ7
          else
            f_L_law_1260 cL cX k286 k305 k1111 (fun x5 x6 x7 x8 x9 x12 x17 x18 x19 w_bb w_m w_v σ => f_L_law_1215 cL cX k286 k305 k1111 n x5 x6 x7 x8 x9 x12 x17 x18 x19 w_bb w_m w_v σ) x5 x6 x7 x8 x9 x12 x17 x18 x19 t3.1 (0 : Int32) w_bb w_m w_v σ7)
       else
         some (0 : Int32))
def f_L_law_1212 (cL : Nat) (cX : Nat → Int32) (k286 : Int32 → (Nat → Int32) → (Nat → Int32) → (Nat → Int32) → k_SB → Option (Int32)) (k305 : Int32 → Int32 → Int32 → (Nat → Int32) → (Nat → Int32) → (Nat → Int32) → k_SB → Option (Int32)) (k1111 : Int32 → Int32 → Int32 → Int32 → Int32 → Int32 → Int32 → (Nat → Int32) → (Nat → Int32) → (Nat → Int32) → k_SB → Option (Int32)) (x5 : Int32) (x6 : Int32) (x7 : Int32) (x8 : Int32) (x9 : Int32) (x12 : Int32) (x17 : Int32) (x18 : Int32) (w_bb : Nat → Int32) (w_m : Nat → Int32) (w_v : Nat → Int32) (σ : k_SB) : Option (Int32) :=
  f_L_law_1215 cL cX k286 k305 k1111 kFU x5 x6 x7 x8 x9 x12 x17 x18 (0 : Int32) w_bb w_m w_v σ
def f_L_law_1455 (cL : Nat) (cX : Nat → Int32) (k286 : Int32 → (Nat → Int32) → (Nat → Int32) → (Nat → Int32) → k_SB → Option (Int32)) (k305 : Int32 → Int32 → Int32 → (Nat → Int32) → (Nat → Int32) → (Nat → Int32) → k_SB → Option (Int32)) (k1389 : Int32 → Int32 → Int32 → Int32 → Int32 → Int32 → (Nat → Int32) → (Nat → Int32) → (Nat → Int32) → k_SB → Option (Int32)) (x5 : Int32) (x6 : Int32) (x7 : Int32) (x8 : Int32) (x12 : Int32) (x17 : Int32) (w_bb : Nat → Int32) (w_m : Nat → Int32) (w_v : Nat → Int32) (σ : k_SB) : Option (Int32) :=
  k1389 x5 x6 x7 x8 x12 (x17 + 1) w_bb w_m w_v σ
def f_L_law_1389 (cL : Nat) (cX : Nat → Int32) (k286 : Int32 → (Nat → Int32) → (Nat → Int32) → (Nat → Int32) → k_SB → Option (Int32)) (k305 : Int32 → Int32 → Int32 → (Nat → Int32) → (Nat → Int32) → (Nat → Int32) → k_SB → Option (Int32)) : Nat → Int32 → Int32 → Int32 → Int32 → Int32 → Int32 → (Nat → Int32) → (Nat → Int32) → (Nat → Int32) → k_SB → Option (Int32)
  | 0, _, _, _, _, _, _, _, _, _, _ => none
  | n + 1, x5, x6, x7, x8, x12, x17, w_bb, w_m, w_v, σ =>
    gd (inR (4 : Int32) 21) <|
    if (w_bb (4 : Int32).toNatClampNeg) ≤ x17 then
      (k305 x5 x6 (x7 + 1) w_bb w_m w_v σ)
    else
      (bd (fx_stack x17 (0 : Int32) σ) fun t3 =>
       lt (ux_stack σ t3) fun σ4 =>
       if t3.1 = x8 then
         (bd (fx_pass x7 x17 σ4) fun t7 =>
          lt (ux_pass σ4 t7) fun σ8 =>
          bd (fx_pass x17 x7 σ8) fun t10 =>
          lt (ux_pass σ8 t10) fun σ11 =>
          if t7.1 = t10.1 then
            (if t7.1 < x12 then
               some (0 : Int32)
             else
               (bd (fx_energy x17 σ11) fun t15 =>
                lt (ux_energy σ11 t15) fun σ16 =>
                if t15.1 ≤ t7.1 then
                  f_L_law_1455 cL cX k286 k305 (fun x5 x6 x7 x8 x12 x17 w_bb w_m w_v σ => f_L_law_1389 cL cX k286 k305 n x5 x6 x7 x8 x12 x17 w_bb w_m w_v σ) x5 x6 x7 x8 x12 x17 w_bb w_m w_v σ16
                else
                  some (0 : Int32)))
          else
            some (0 : Int32))
       else
         f_L_law_1455 cL cX k286 k305 (fun x5 x6 x7 x8 x12 x17 w_bb w_m w_v σ => f_L_law_1389 cL cX k286 k305 n x5 x6 x7 x8 x12 x17 w_bb w_m w_v σ) x5 x6 x7 x8 x12 x17 w_bb w_m w_v σ4)
def f_L_law_1111 (cL : Nat) (cX : Nat → Int32) (k286 : Int32 → (Nat → Int32) → (Nat → Int32) → (Nat → Int32) → k_SB → Option (Int32)) (k305 : Int32 → Int32 → Int32 → (Nat → Int32) → (Nat → Int32) → (Nat → Int32) → k_SB → Option (Int32)) : Nat → Int32 → Int32 → Int32 → Int32 → Int32 → Int32 → Int32 → (Nat → Int32) → (Nat → Int32) → (Nat → Int32) → k_SB → Option (Int32)
  | 0, _, _, _, _, _, _, _, _, _, _, _ => none
  | n + 1, x5, x6, x7, x8, x9, x12, x17, w_bb, w_m, w_v, σ =>
    if (4 : Int32) ≤ x17 then
      f_L_law_1389 cL cX k286 k305 kFU x5 x6 x7 x8 x12 (0 : Int32) w_bb w_m w_v σ
    else
      (bd (fx_least x7 x17 σ) fun t2 =>
       lt (ux_least σ t2) fun σ3 =>
       if x9 < t2.1 then
         some (0 : Int32)
       else
         (bd (f_L_energy x8 t2.1 w_bb) fun t6 =>
          if t6 = x12 then
            (bd (fx_manyAlike x7 x17 σ3) fun t9 =>
             lt (ux_manyAlike σ3 t9) fun σ10 =>
             if ((4 : Int32) * x8) < t9.1 then
               some (0 : Int32)
             else
               (bd (fx_alike x7 x7 x17 σ10) fun t13 =>
                lt (ux_alike σ10 t13) fun σ14 =>
                if t13.1 = (1 : Int32) then
                  (bd (fx_least x7 (0 : Int32) σ14) fun t17 =>
                   lt (ux_least σ14 t17) fun σ18 =>
                   if t17.1 < t2.1 then
                     some (0 : Int32)
                   else
                     (if x17 = 0 then
                        (bd (fx_manyAlike x7 (0 : Int32) σ18) fun t22 =>
                         lt (ux_manyAlike σ18 t22) fun σ23 =>
                         bd (fx_stack x7 (3 : Int32) σ23) fun t25 =>
                         lt (ux_stack σ23 t25) fun σ26 =>
                         if t22.1 = t25.1 then
                           f_L_law_1212 cL cX k286 k305 (fun x5 x6 x7 x8 x9 x12 x17 w_bb w_m w_v σ => f_L_law_1111 cL cX k286 k305 n x5 x6 x7 x8 x9 x12 x17 w_bb w_m w_v σ) x5 x6 x7 x8 x9 x12 x17 t2.1 w_bb w_m w_v σ26
                         else
                           some (0 : Int32))
                      else
                        f_L_law_1212 cL cX k286 k305 (fun x5 x6 x7 x8 x9 x12 x17 w_bb w_m w_v σ => f_L_law_1111 cL cX k286 k305 n x5 x6 x7 x8 x9 x12 x17 w_bb w_m w_v σ) x5 x6 x7 x8 x9 x12 x17 t2.1 w_bb w_m w_v σ18))
                else
                  some (0 : Int32)))
          else
            some (0 : Int32)))
def f_L_law_1020 (cL : Nat) (cX : Nat → Int32) (k286 : Int32 → (Nat → Int32) → (Nat → Int32) → (Nat → Int32) → k_SB → Option (Int32)) (k305 : Int32 → Int32 → Int32 → (Nat → Int32) → (Nat → Int32) → (Nat → Int32) → k_SB → Option (Int32)) : Nat → Int32 → Int32 → Int32 → Int32 → Int32 → Int32 → Int32 → (Nat → Int32) → (Nat → Int32) → (Nat → Int32) → k_SB → Option (Int32)
  | 0, _, _, _, _, _, _, _, _, _, _, _ => none
  | n + 1, x5, x6, x7, x8, x9, x12, x17, w_bb, w_m, w_v, σ =>
    if x8 ≤ x17 then
      (bd (fx_differs x7 x7 σ) fun t2 =>
       lt (ux_differs σ t2) fun σ3 =>
       if t2.1 = (-2 : Int32) then
         (bd (fx_sameLines x7 x7 σ3) fun t6 =>
          lt (ux_sameLines σ3 t6) fun σ7 =>
          if t6.1 = (1 : Int32) then
            (bd (fx_pass x7 x7 σ7) fun t10 =>
             lt (ux_pass σ7 t10) fun σ11 =>
             if t10.1 = x12 then
               (bd (fx_valley x7 σ11) fun t14 =>
                lt (ux_valley σ11 t14) fun σ15 =>
                if (1 : Int32) ≤ t14.1 then
                  f_L_law_1111 cL cX k286 k305 kFU x5 x6 x7 x8 x9 x12 (0 : Int32) w_bb w_m w_v σ15
                else
                  some (0 : Int32))
             else
               some (0 : Int32))
          else
            some (0 : Int32))
       else
         some (0 : Int32))
    else
      (bd (fx_faultEnergy x7 x17 σ) fun t18 =>
       lt (ux_faultEnergy σ t18) fun σ19 =>
       bd (fx_bestFault x7 σ19) fun t21 =>
       lt (ux_bestFault σ19 t21) fun σ22 =>
       bd (fx_faultEnergy x7 t21.1 σ22) fun t24 =>
       lt (ux_faultEnergy σ22 t24) fun σ25 =>
       if t24.1 ≤ t18.1 then
         f_L_law_1020 cL cX k286 k305 n x5 x6 x7 x8 x9 x12 (x17 + 1) w_bb w_m w_v σ25
       else
         some (0 : Int32))
def f_L_law_957 (cL : Nat) (cX : Nat → Int32) (k286 : Int32 → (Nat → Int32) → (Nat → Int32) → (Nat → Int32) → k_SB → Option (Int32)) (k305 : Int32 → Int32 → Int32 → (Nat → Int32) → (Nat → Int32) → (Nat → Int32) → k_SB → Option (Int32)) : Nat → Int32 → Int32 → Int32 → Int32 → Int32 → Int32 → Int32 → Int32 → (Nat → Int32) → (Nat → Int32) → (Nat → Int32) → k_SB → Option (Int32)
  | 0, _, _, _, _, _, _, _, _, _, _, _, _ => none
  | n + 1, x5, x6, x7, x8, x9, x12, x15, x17, w_bb, w_m, w_v, σ =>
    if x8 ≤ x17 then
      f_L_law_1020 cL cX k286 k305 kFU x5 x6 x7 x8 x9 x12 (1 : Int32) w_bb w_m w_v σ
    else
      (bd (fx_slipEnergy x7 x17 σ) fun t2 =>
       lt (ux_slipEnergy σ t2) fun σ3 =>
       bd (fx_slipEnergy x7 x15 σ3) fun t5 =>
       lt (ux_slipEnergy σ3 t5) fun σ6 =>
       if t2.1 < t5.1 then
         some (0 : Int32)
       else
         (if x15 ≤ x17 then
            f_L_law_1011 cL cX k286 k305 (fun x5 x6 x7 x8 x9 x12 x15 x17 w_bb w_m w_v σ => f_L_law_957 cL cX k286 k305 n x5 x6 x7 x8 x9 x12 x15 x17 w_bb w_m w_v σ) x5 x6 x7 x8 x9 x12 x15 x17 w_bb w_m w_v σ6
          else
            (bd (fx_slipEnergy x7 x17 σ6) fun t10 =>
             lt (ux_slipEnergy σ6 t10) fun σ11 =>
             bd (fx_slipEnergy x7 x15 σ11) fun t13 =>
             lt (ux_slipEnergy σ11 t13) fun σ14 =>
             if t10.1 = t13.1 then
               some (0 : Int32)
             else
               f_L_law_1011 cL cX k286 k305 (fun x5 x6 x7 x8 x9 x12 x15 x17 w_bb w_m w_v σ => f_L_law_957 cL cX k286 k305 n x5 x6 x7 x8 x9 x12 x15 x17 w_bb w_m w_v σ) x5 x6 x7 x8 x9 x12 x15 x17 w_bb w_m w_v σ14)))
def f_L_law_949 (cL : Nat) (cX : Nat → Int32) (k286 : Int32 → (Nat → Int32) → (Nat → Int32) → (Nat → Int32) → k_SB → Option (Int32)) (k305 : Int32 → Int32 → Int32 → (Nat → Int32) → (Nat → Int32) → (Nat → Int32) → k_SB → Option (Int32)) (x5 : Int32) (x6 : Int32) (x7 : Int32) (x8 : Int32) (x9 : Int32) (x12 : Int32) (x15 : Int32) (s0 : Int32) (s1 : Int32) (w_bb : Nat → Int32) (w_m : Nat → Int32) (w_v : Nat → Int32) (σ : k_SB) : Option (Int32) :=
  if s0 = s1 then
    f_L_law_957 cL cX k286 k305 kFU x5 x6 x7 x8 x9 x12 x15 (0 : Int32) w_bb w_m w_v σ
  else
    some (0 : Int32)
def f_L_law_935 (cL : Nat) (cX : Nat → Int32) (k286 : Int32 → (Nat → Int32) → (Nat → Int32) → (Nat → Int32) → k_SB → Option (Int32)) (k305 : Int32 → Int32 → Int32 → (Nat → Int32) → (Nat → Int32) → (Nat → Int32) → k_SB → Option (Int32)) (x5 : Int32) (x6 : Int32) (x7 : Int32) (x8 : Int32) (x9 : Int32) (x12 : Int32) (x15 : Int32) (s0 : Int32) (w_bb : Nat → Int32) (w_m : Nat → Int32) (w_v : Nat → Int32) (σ : k_SB) : Option (Int32) :=
  bd (fx_relax x7 σ) fun t1 =>
  lt (ux_relax σ t1) fun σ2 =>
  if t1.1 = 0 then
    f_L_law_949 cL cX k286 k305 x5 x6 x7 x8 x9 x12 x15 s0 (1 : Int32) w_bb w_m w_v σ2
  else
    f_L_law_949 cL cX k286 k305 x5 x6 x7 x8 x9 x12 x15 s0 (0 : Int32) w_bb w_m w_v σ2
def f_L_law_920 (cL : Nat) (cX : Nat → Int32) (k286 : Int32 → (Nat → Int32) → (Nat → Int32) → (Nat → Int32) → k_SB → Option (Int32)) (k305 : Int32 → Int32 → Int32 → (Nat → Int32) → (Nat → Int32) → (Nat → Int32) → k_SB → Option (Int32)) (x5 : Int32) (x6 : Int32) (x7 : Int32) (x8 : Int32) (x9 : Int32) (x12 : Int32) (x15 : Int32) (x16 : Int32) (s0 : Int32) (s1 : Int32) (w_bb : Nat → Int32) (w_m : Nat → Int32) (w_v : Nat → Int32) (σ : k_SB) : Option (Int32) :=
  if s0 = s1 then
    (if x16 = x9 then
       f_L_law_935 cL cX k286 k305 x5 x6 x7 x8 x9 x12 x15 (1 : Int32) w_bb w_m w_v σ
     else
       f_L_law_935 cL cX k286 k305 x5 x6 x7 x8 x9 x12 x15 (0 : Int32) w_bb w_m w_v σ)
  else
    some (0 : Int32)
def f_L_law_902 (cL : Nat) (cX : Nat → Int32) (k286 : Int32 → (Nat → Int32) → (Nat → Int32) → (Nat → Int32) → k_SB → Option (Int32)) (k305 : Int32 → Int32 → Int32 → (Nat → Int32) → (Nat → Int32) → (Nat → Int32) → k_SB → Option (Int32)) (x5 : Int32) (x6 : Int32) (x7 : Int32) (x8 : Int32) (x9 : Int32) (x12 : Int32) (x15 : Int32) (x16 : Int32) (s0 : Int32) (w_bb : Nat → Int32) (w_m : Nat → Int32) (w_v : Nat → Int32) (σ : k_SB) : Option (Int32) :=
  bd (fx_slipEnergy x7 x15 σ) fun t1 =>
  lt (ux_slipEnergy σ t1) fun σ2 =>
  if t1.1 < x12 then
    f_L_law_920 cL cX k286 k305 x5 x6 x7 x8 x9 x12 x15 x16 s0 (0 : Int32) w_bb w_m w_v σ2
  else
    f_L_law_920 cL cX k286 k305 x5 x6 x7 x8 x9 x12 x15 x16 s0 (1 : Int32) w_bb w_m w_v σ2
def f_L_law_833 (cL : Nat) (cX : Nat → Int32) (k286 : Int32 → (Nat → Int32) → (Nat → Int32) → (Nat → Int32) → k_SB → Option (Int32)) (k305 : Int32 → Int32 → Int32 → (Nat → Int32) → (Nat → Int32) → (Nat → Int32) → k_SB → Option (Int32)) : Nat → Int32 → Int32 → Int32 → Int32 → Int32 → Int32 → Int32 → Int32 → (Nat → Int32) → (Nat → Int32) → (Nat → Int32) → k_SB → Option (Int32)
  | 0, _, _, _, _, _, _, _, _, _, _, _, _ => none
  | n + 1, x5, x6, x7, x8, x9, x12, x14, x15, w_bb, w_m, w_v, σ =>
    if x14 ≤ x15 then
      (bd (fx_weakest x7 σ) fun t2 =>
       lt (ux_weakest σ t2) fun σ3 =>
       bd (fx_relaxed x7 σ3) fun t5 =>
       lt (ux_relaxed σ3 t5) fun σ6 =>
       bd (f_L_energy x8 t5.1 w_bb) fun t8 =>
       if x12 < t8 then
         some (0 : Int32)
       else
         (bd (fx_relax x7 σ6) fun t11 =>
          lt (ux_relax σ6 t11) fun σ12 =>
          if t11.1 = 0 then
            f_L_law_902 cL cX k286 k305 x5 x6 x7 x8 x9 x12 t2.1 t5.1 (1 : Int32) w_bb w_m w_v σ12
          else
            f_L_law_902 cL cX k286 k305 x5 x6 x7 x8 x9 x12 t2.1 t5.1 (0 : Int32) w_bb w_m w_v σ12))
    else
      (bd (fx_out x7 x15 σ) fun t15 =>
       lt (ux_out σ t15) fun σ16 =>
       if t15.1 = 0 then
         some (0 : Int32)
       else
         f_L_law_833 cL cX k286 k305 n x5 x6 x7 x8 x9 x12 x14 (x15 + 1) w_bb w_m w_v σ16)
def f_L_law_830 (cL : Nat) (cX : Nat → Int32) (k286 : Int32 → (Nat → Int32) → (Nat → Int32) → (Nat → Int32) → k_SB → Option (Int32)) (k305 : Int32 → Int32 → Int32 → (Nat → Int32) → (Nat → Int32) → (Nat → Int32) → k_SB → Option (Int32)) (x5 : Int32) (x6 : Int32) (x7 : Int32) (x8 : Int32) (x9 : Int32) (x12 : Int32) (x14 : Int32) (w_bb : Nat → Int32) (w_m : Nat → Int32) (w_v : Nat → Int32) (σ : k_SB) : Option (Int32) :=
  f_L_law_833 cL cX k286 k305 kFU x5 x6 x7 x8 x9 x12 x14 (1 : Int32) w_bb w_m w_v σ
def f_L_law_754 (cL : Nat) (cX : Nat → Int32) (k286 : Int32 → (Nat → Int32) → (Nat → Int32) → (Nat → Int32) → k_SB → Option (Int32)) (k305 : Int32 → Int32 → Int32 → (Nat → Int32) → (Nat → Int32) → (Nat → Int32) → k_SB → Option (Int32)) : Nat → Int32 → Int32 → Int32 → Int32 → Int32 → Int32 → Int32 → Int32 → Int32 → (Nat → Int32) → (Nat → Int32) → (Nat → Int32) → k_SB → Option (Int32)
  | 0, _, _, _, _, _, _, _, _, _, _, _, _, _ => none
  | n + 1, x5, x6, x7, x8, x9, x10, x12, x13, x14, w_bb, w_m, w_v, σ =>
    if x10 ≤ x14 then
      (bd (fx_firstLine x7 σ) fun t2 =>
       lt (ux_firstLine σ t2) fun σ3 =>
       bd (fx_outs x7 σ3) fun t5 =>
       lt (ux_outs σ3 t5) fun σ6 =>
       if x13 = t5.1 then
         (if x10 ≤ x13 then
            some (0 : Int32)
          else
            (if t2.1 = 0 then
               some (0 : Int32)
             else
               (if t2.1 ≤ 0 then
                  f_L_law_830 cL cX k286 k305 x5 x6 x7 x8 x9 x12 t2.1 w_bb w_m w_v σ6
                else
                  (bd (fx_out x7 t2.1 σ6) fun t12 =>
                   lt (ux_out σ6 t12) fun σ13 =>
                   if t12.1 = (1 : Int32) then
                     some (0 : Int32)
                   else
                     f_L_law_830 cL cX k286 k305 x5 x6 x7 x8 x9 x12 t2.1 w_bb w_m w_v σ13))))
       else
         some (0 : Int32))
    else
      (bd (fx_out x7 x14 σ) fun t16 =>
       lt (ux_out σ t16) fun σ17 =>
       lt (x13 + t16.1) fun n19 =>
       f_L_law_754 cL cX k286 k305 n x5 x6 x7 x8 x9 x10 x12 n19 (x14 + 1) w_bb w_m w_v σ17)
def f_L_law_603 (cL : Nat) (cX : Nat → Int32) (k286 : Int32 → (Nat → Int32) → (Nat → Int32) → (Nat → Int32) → k_SB → Option (Int32)) (k305 : Int32 → Int32 → Int32 → (Nat → Int32) → (Nat → Int32) → (Nat → Int32) → k_SB → Option (Int32)) : Nat → Int32 → Int32 → Int32 → Int32 → Int32 → Int32 → Int32 → (Nat → Int32) → (Nat → Int32) → (Nat → Int32) → k_SB → Option (Int32)
  | 0, _, _, _, _, _, _, _, _, _, _, _ => none
  | n + 1, x5, x6, x7, x8, x9, x10, x12, w_bb, w_m, w_v, σ =>
    if x10 ≤ x12 then
      (bd (fx_agree x7 x10 σ) fun t2 =>
       lt (ux_agree σ t2) fun σ3 =>
       if t2.1 = x10 then
         (bd (fx_agree x7 (1 : Int32) σ3) fun t6 =>
          lt (ux_agree σ3 t6) fun σ7 =>
          if t6.1 = 0 then
            (bd (fx_agree x7 (2 : Int32) σ7) fun t10 =>
             lt (ux_agree σ7 t10) fun σ11 =>
             bd (fx_stack x7 (4 : Int32) σ11) fun t13 =>
             lt (ux_stack σ11 t13) fun σ14 =>
             if (t10.1 * x8) = (t13.1 * x10) then
               (bd (fx_energy x7 σ14) fun t17 =>
                lt (ux_energy σ14 t17) fun σ18 =>
                bd (fx_ground x8 σ18) fun t20 =>
                lt (ux_ground σ18 t20) fun σ21 =>
                if t17.1 < t20.1 then
                  some (0 : Int32)
                else
                  (bd (fx_calmest σ21) fun t24 =>
                   lt (ux_calmest σ21 t24) fun σ25 =>
                   bd (fx_stack t24.1 (0 : Int32) σ25) fun t27 =>
                   lt (ux_stack σ25 t27) fun σ28 =>
                   bd (fx_calmest σ28) fun t30 =>
                   lt (ux_calmest σ28 t30) fun σ31 =>
                   bd (fx_energy t30.1 σ31) fun t33 =>
                   lt (ux_energy σ31 t33) fun σ34 =>
                   if (t33.1 * x8) ≤ (t17.1 * t27.1) then
                     f_L_law_754 cL cX k286 k305 kFU x5 x6 x7 x8 x9 x10 t17.1 (0 : Int32) (0 : Int32) w_bb w_m w_v σ34
                   else
                     some (0 : Int32)))
             else
               some (0 : Int32))
          else
            some (0 : Int32))
       else
         some (0 : Int32))
    else
      (bd (fx_agree x7 x12 σ) fun t37 =>
       lt (ux_agree σ t37) fun σ38 =>
       bd (fx_agree x7 (x10 - x12) σ38) fun t40 =>
       lt (ux_agree σ38 t40) fun σ41 =>
       if t37.1 = t40.1 then
         (bd (fx_agree x7 x12 σ41) fun t44 =>
          lt (ux_agree σ41 t44) fun σ45 =>
          if t44.1 ≤ x10 then
            f_L_law_603 cL cX k286 k305 n x5 x6 x7 x8 x9 x10 (x12 + 1) w_bb w_m w_v σ45
          else
            some (0 : Int32))
       else
         some (0 : Int32))
def f_L_law_516 (cL : Nat) (cX : Nat → Int32) (k286 : Int32 → (Nat → Int32) → (Nat → Int32) → (Nat → Int32) → k_SB → Option (Int32)) (k305 : Int32 → Int32 → Int32 → (Nat → Int32) → (Nat → Int32) → (Nat → Int32) → k_SB → Option (Int32)) : Nat → Int32 → Int32 → Int32 → Int32 → Int32 → Int32 → Int32 → (Nat → Int32) → (Nat → Int32) → (Nat → Int32) → k_SB → Option (Int32)
  | 0, _, _, _, _, _, _, _, _, _, _, _ => none
  | n + 1, x5, x6, x7, x8, x9, x10, x12, w_bb, w_m, w_v, σ =>
    if (34 : Int32) ≤ x12 then
      f_L_law_603 cL cX k286 k305 kFU x5 x6 x7 x8 x9 x10 (1 : Int32) w_bb w_m w_v σ
    else
      (bd (fx_layer x7 x12 σ) fun t2 =>
       lt (ux_layer σ t2) fun σ3 =>
       bd (fx_layer x7 (x12 + (1 : Int32)) σ3) fun t5 =>
       lt (ux_layer σ3 t5) fun σ6 =>
       if t2.1 = t5.1 then
         some (0 : Int32)
       else
         (bd (fx_hex x7 (x12 + (1 : Int32)) σ6) fun t9 =>
          lt (ux_hex σ6 t9) fun σ10 =>
          if t9.1 = (1 : Int32) then
            f_L_law_563 cL cX k286 k305 (fun x5 x6 x7 x8 x9 x10 x12 w_bb w_m w_v σ => f_L_law_516 cL cX k286 k305 n x5 x6 x7 x8 x9 x10 x12 w_bb w_m w_v σ) x5 x6 x7 x8 x9 x10 x12 (1 : Int32) w_bb w_m w_v σ10
          else
            f_L_law_563 cL cX k286 k305 (fun x5 x6 x7 x8 x9 x10 x12 w_bb w_m w_v σ => f_L_law_516 cL cX k286 k305 n x5 x6 x7 x8 x9 x10 x12 w_bb w_m w_v σ) x5 x6 x7 x8 x9 x10 x12 (0 : Int32) w_bb w_m w_v σ10))
def f_L_law_513 (cL : Nat) (cX : Nat → Int32) (k286 : Int32 → (Nat → Int32) → (Nat → Int32) → (Nat → Int32) → k_SB → Option (Int32)) (k305 : Int32 → Int32 → Int32 → (Nat → Int32) → (Nat → Int32) → (Nat → Int32) → k_SB → Option (Int32)) (x5 : Int32) (x6 : Int32) (x7 : Int32) (x8 : Int32) (x9 : Int32) (x10 : Int32) (w_bb : Nat → Int32) (w_m : Nat → Int32) (w_v : Nat → Int32) (σ : k_SB) : Option (Int32) :=
  f_L_law_516 cL cX k286 k305 kFU x5 x6 x7 x8 x9 x10 (0 : Int32) w_bb w_m w_v σ
def f_L_law_488 (cL : Nat) (cX : Nat → Int32) (k286 : Int32 → (Nat → Int32) → (Nat → Int32) → (Nat → Int32) → k_SB → Option (Int32)) (k305 : Int32 → Int32 → Int32 → (Nat → Int32) → (Nat → Int32) → (Nat → Int32) → k_SB → Option (Int32)) (x5 : Int32) (x6 : Int32) (x7 : Int32) (x8 : Int32) (x9 : Int32) (x10 : Int32) (w_bb : Nat → Int32) (w_m : Nat → Int32) (w_v : Nat → Int32) (σ : k_SB) : Option (Int32) :=
  bd (fx_stack x7 (5 : Int32) σ) fun t1 =>
  lt (ux_stack σ t1) fun σ2 =>
  if t1.1 ≤ (1 : Int32) then
    f_L_law_513 cL cX k286 k305 x5 x6 x7 x8 x9 x10 w_bb w_m w_v σ2
  else
    (bd (fx_stack x7 (5 : Int32) σ2) fun t5 =>
     lt (ux_stack σ2 t5) fun σ6 =>
     if (t5.1 - t5.1 / (2 : Int32) * (2 : Int32)) = 0 then
       f_L_law_513 cL cX k286 k305 x5 x6 x7 x8 x9 x10 w_bb w_m w_v σ6
     else
       some (0 : Int32))
def f_L_law_422 (cL : Nat) (cX : Nat → Int32) (k286 : Int32 → (Nat → Int32) → (Nat → Int32) → (Nat → Int32) → k_SB → Option (Int32)) (k305 : Int32 → Int32 → Int32 → (Nat → Int32) → (Nat → Int32) → (Nat → Int32) → k_SB → Option (Int32)) : Nat → Int32 → Int32 → Int32 → Int32 → Int32 → Int32 → Int32 → Int32 → (Nat → Int32) → (Nat → Int32) → (Nat → Int32) → k_SB → Option (Int32)
  | 0, _, _, _, _, _, _, _, _, _, _, _, _ => none
  | n + 1, x5, x6, x7, x8, x9, x10, x11, x12, w_bb, w_m, w_v, σ =>
    bd (fx_stack x7 (5 : Int32) σ) fun t1 =>
    lt (ux_stack σ t1) fun σ2 =>
    if t1.1 ≤ x12 then
      (if x11 = x8 then
         (bd (fx_stack x7 (5 : Int32) σ2) fun t6 =>
          lt (ux_stack σ2 t6) fun σ7 =>
          if t6.1 ≤ (1 : Int32) then
            f_L_law_488 cL cX k286 k305 x5 x6 x7 x8 x9 x10 w_bb w_m w_v σ7
          else
            (bd (fx_stack x7 (5 : Int32) σ7) fun t10 =>
             lt (ux_stack σ7 t10) fun σ11 =>
             bd (fx_stack x7 (4 : Int32) σ11) fun t13 =>
             lt (ux_stack σ11 t13) fun σ14 =>
             if t10.1 = t13.1 then
               f_L_law_488 cL cX k286 k305 x5 x6 x7 x8 x9 x10 w_bb w_m w_v σ14
             else
               some (0 : Int32)))
       else
         some (0 : Int32))
    else
      (bd (fx_run x7 x12 σ2) fun t17 =>
       lt (ux_run σ2 t17) fun σ18 =>
       lt (x11 + t17.1) fun n20 =>
       f_L_law_422 cL cX k286 k305 n x5 x6 x7 x8 x9 x10 n20 (x12 + 1) w_bb w_m w_v σ18)
def f_L_law_411 (cL : Nat) (cX : Nat → Int32) (k286 : Int32 → (Nat → Int32) → (Nat → Int32) → (Nat → Int32) → k_SB → Option (Int32)) (k305 : Int32 → Int32 → Int32 → (Nat → Int32) → (Nat → Int32) → (Nat → Int32) → k_SB → Option (Int32)) (x5 : Int32) (x6 : Int32) (x7 : Int32) (x8 : Int32) (x9 : Int32) (x10 : Int32) (s0 : Int32) (s1 : Int32) (w_bb : Nat → Int32) (w_m : Nat → Int32) (w_v : Nat → Int32) (σ : k_SB) : Option (Int32) :=
  if s0 = s1 then
    f_L_law_422 cL cX k286 k305 kFU x5 x6 x7 x8 x9 x10 (0 : Int32) (0 : Int32) w_bb w_m w_v σ
  else
    some (0 : Int32)
def f_L_law_395 (cL : Nat) (cX : Nat → Int32) (k286 : Int32 → (Nat → Int32) → (Nat → Int32) → (Nat → Int32) → k_SB → Option (Int32)) (k305 : Int32 → Int32 → Int32 → (Nat → Int32) → (Nat → Int32) → (Nat → Int32) → k_SB → Option (Int32)) (x5 : Int32) (x6 : Int32) (x7 : Int32) (x8 : Int32) (x9 : Int32) (x10 : Int32) (s0 : Int32) (w_bb : Nat → Int32) (w_m : Nat → Int32) (w_v : Nat → Int32) (σ : k_SB) : Option (Int32) :=
  bd (fx_sum x7 σ) fun t1 =>
  lt (ux_sum σ t1) fun σ2 =>
  if (t1.1 - t1.1 / (3 : Int32) * (3 : Int32)) = 0 then
    f_L_law_411 cL cX k286 k305 x5 x6 x7 x8 x9 x10 s0 (1 : Int32) w_bb w_m w_v σ2
  else
    f_L_law_411 cL cX k286 k305 x5 x6 x7 x8 x9 x10 s0 (0 : Int32) w_bb w_m w_v σ2
def f_L_law_356 (cL : Nat) (cX : Nat → Int32) (k286 : Int32 → (Nat → Int32) → (Nat → Int32) → (Nat → Int32) → k_SB → Option (Int32)) (k305 : Int32 → Int32 → Int32 → (Nat → Int32) → (Nat → Int32) → (Nat → Int32) → k_SB → Option (Int32)) (x5 : Int32) (x6 : Int32) (x7 : Int32) (x8 : Int32) (x9 : Int32) (x10 : Int32) (w_bb : Nat → Int32) (w_m : Nat → Int32) (w_v : Nat → Int32) (σ : k_SB) : Option (Int32) :=
  bd (fx_stack x7 (3 : Int32) σ) fun t1 =>
  lt (ux_stack σ t1) fun σ2 =>
  gd (¬ t1.1 = 0) <|
  if (x8 - x8 / t1.1 * t1.1) = 0 then
    (bd (fx_sum x7 σ2) fun t6 =>
     lt (ux_sum σ2 t6) fun σ7 =>
     if ((t6.1 - x8) - (t6.1 - x8) / (2 : Int32) * (2 : Int32)) = 0 then
       (if x10 = x8 then
          f_L_law_395 cL cX k286 k305 x5 x6 x7 x8 x9 x10 (1 : Int32) w_bb w_m w_v σ7
        else
          f_L_law_395 cL cX k286 k305 x5 x6 x7 x8 x9 x10 (0 : Int32) w_bb w_m w_v σ7)
     else
       some (0 : Int32))
  else
    some (0 : Int32)
def f_L_law_1683 (cL : Nat) (cX : Nat → Int32) (k286 : Int32 → (Nat → Int32) → (Nat → Int32) → (Nat → Int32) → k_SB → Option (Int32)) (k1629 : Int32 → Int32 → Int32 → Int32 → (Nat → Int32) → (Nat → Int32) → (Nat → Int32) → k_SB → Option (Int32)) (x5 : Int32) (x6 : Int32) (x9 : Int32) (x10 : Int32) (w_bb : Nat → Int32) (w_m : Nat → Int32) (w_v : Nat → Int32) (σ : k_SB) : Option (Int32) :=
  k1629 x5 x6 x9 (x10 + 1) w_bb w_m w_v σ
def f_L_law_1847 (cL : Nat) (cX : Nat → Int32) (k286 : Int32 → (Nat → Int32) → (Nat → Int32) → (Nat → Int32) → k_SB → Option (Int32)) : Nat → Int32 → Int32 → (Nat → Int32) → (Nat → Int32) → (Nat → Int32) → k_SB → Option (Int32)
  | 0, _, _, _, _, _, _ => none
  | n + 1, x5, x13, w_bb, w_m, w_v, σ =>
    if (3 : Int32) ≤ x13 then
      (k286 (x5 + 1) w_bb w_m w_v σ)
    else
      (bd (f_L_cell cL cX (((7 : Int32) + ((3 : Int32) * x5)) + x13)) fun t2 =>
       bd (f_L_act t2 w_bb w_v σ) fun t3 =>
       if 0 ≤ t3.1 then
         f_L_law_1847 cL cX k286 n x5 (x13 + 1) w_bb w_m t3.2.1 t3.2.2
       else
         some (0 : Int32))
def f_L_law_1629 (cL : Nat) (cX : Nat → Int32) (k286 : Int32 → (Nat → Int32) → (Nat → Int32) → (Nat → Int32) → k_SB → Option (Int32)) : Nat → Int32 → Int32 → Int32 → Int32 → (Nat → Int32) → (Nat → Int32) → (Nat → Int32) → k_SB → Option (Int32)
  | 0, _, _, _, _, _, _, _, _ => none
  | n + 1, x5, x6, x9, x10, w_bb, w_m, w_v, σ =>
    if (7 : Int32) ≤ x10 then
      (bd (fx_meanSum x9 (0 : Int32) σ) fun t2 =>
       lt (ux_meanSum σ t2) fun σ3 =>
       bd (fx_meanSum x9 (1 : Int32) σ3) fun t5 =>
       lt (ux_meanSum σ3 t5) fun σ6 =>
       if 0 < (lg_cmp t2.1 ((x9.toInt64) * t5.1)) then
         some (0 : Int32)
       else
         (bd (fx_meanSum x9 (0 : Int32) σ6) fun t9 =>
          lt (ux_meanSum σ6 t9) fun σ10 =>
          bd (fx_meanSum x9 (1 : Int32) σ10) fun t12 =>
          lt (ux_meanSum σ10 t12) fun σ13 =>
          if (lg_cmp t9.1 (((-x9).toInt64) * t12.1)) < 0 then
            some (0 : Int32)
          else
            (bd (fx_meanSum x9 (1 : Int32) σ13) fun t16 =>
             lt (ux_meanSum σ13 t16) fun σ17 =>
             if 0 ≤ (lg_cmp t16.1 (1 : Int64)) then
               (lt ((x6 >>> ((3 : Int32) &&& 31)) &&& (65535 : Int32)) fun n20 =>
                bd (fx_grown n20 x9 σ17) fun t21 =>
                lt (ux_grown σ17 t21) fun σ22 =>
                bd (fx_longestRun n20 x9 σ22) fun t24 =>
                lt (ux_longestRun σ22 t24) fun σ25 =>
                if t21.1 < ((1 : Int32) <<< ((x9 - (1 : Int32)) &&& 31)) then
                  some (0 : Int32)
                else
                  (if ((1 : Int32) <<< (x9 &&& 31)) ≤ t21.1 then
                     some (0 : Int32)
                   else
                     (if t24.1 < (1 : Int32) then
                        some (0 : Int32)
                      else
                        (if x9 < t24.1 then
                           some (0 : Int32)
                         else
                           (bd (fx_longestRun n20 (x9 + (1 : Int32)) σ25) fun t31 =>
                            lt (ux_longestRun σ25 t31) fun σ32 =>
                            if t31.1 < t24.1 then
                              some (0 : Int32)
                            else
                              (bd (fx_grown n20 (x9 + (1 : Int32)) σ32) fun t35 =>
                               lt (ux_grown σ32 t35) fun σ36 =>
                               if (t35.1 / (2 : Int32)) = t21.1 then
                                 f_L_law_1847 cL cX k286 kFU x5 (0 : Int32) w_bb w_m w_v σ36
                               else
                                 some (0 : Int32)))))))
             else
               some (0 : Int32))))
    else
      (bd (fx_odds x9 x10 (0 : Int32) σ) fun t39 =>
       lt (ux_odds σ t39) fun σ40 =>
       bd (fx_odds x9 x10 (1 : Int32) σ40) fun t42 =>
       lt (ux_odds σ40 t42) fun σ43 =>
       if 0 < (lg_cmp t39.1 t42.1) then
         some (0 : Int32)
       else
         (if x10 < (x9 - (1 : Int32)) then
            f_L_law_1683 cL cX k286 (fun x5 x6 x9 x10 w_bb w_m w_v σ => f_L_law_1629 cL cX k286 n x5 x6 x9 x10 w_bb w_m w_v σ) x5 x6 x9 x10 w_bb w_m w_v σ43
          else
            (bd (fx_odds x9 x10 (0 : Int32) σ43) fun t47 =>
             lt (ux_odds σ43 t47) fun σ48 =>
             if (lg_cmp t47.1 (1 : Int64)) = 0 then
               f_L_law_1683 cL cX k286 (fun x5 x6 x9 x10 w_bb w_m w_v σ => f_L_law_1629 cL cX k286 n x5 x6 x9 x10 w_bb w_m w_v σ) x5 x6 x9 x10 w_bb w_m w_v σ48
             else
               some (0 : Int32))))
def f_L_law_1559 (cL : Nat) (cX : Nat → Int32) (k286 : Int32 → (Nat → Int32) → (Nat → Int32) → (Nat → Int32) → k_SB → Option (Int32)) : Nat → Int32 → Int32 → Int32 → Int32 → Int32 → (Nat → Int32) → (Nat → Int32) → (Nat → Int32) → k_SB → Option (Int32)
  | 0, _, _, _, _, _, _, _, _, _ => none
  | n + 1, x5, x6, x7, x8, x9, w_bb, w_m, w_v, σ =>
    if x7 ≤ x9 then
      (lt ((1 : Int32) + (x6 &&& (7 : Int32))) fun n2 =>
       f_L_law_1629 cL cX k286 kFU x5 x6 n2 (0 : Int32) w_bb w_m w_v σ)
    else
      (bd (fx_fitAt x9 σ) fun t3 =>
       lt (ux_fitAt σ t3) fun σ4 =>
       if t3.1 ≤ x8 then
         some (0 : Int32)
       else
         (bd (fx_could σ4) fun t7 =>
          lt (ux_could σ4 t7) fun σ8 =>
          if (t3.1 &&& (t7.1 ^^^ (-1 : Int32))) = 0 then
            (bd (fx_surely σ8) fun t11 =>
             lt (ux_surely σ8 t11) fun σ12 =>
             if (t11.1 &&& (t3.1 ^^^ (-1 : Int32))) = 0 then
               f_L_law_1559 cL cX k286 n x5 x6 x7 t3.1 (x9 + 1) w_bb w_m w_v σ12
             else
               some (0 : Int32))
          else
            some (0 : Int32)))
def f_L_law_1534 (cL : Nat) (cX : Nat → Int32) (k286 : Int32 → (Nat → Int32) → (Nat → Int32) → (Nat → Int32) → k_SB → Option (Int32)) (x5 : Int32) (x6 : Int32) (x7 : Int32) (s0 : Int32) (s1 : Int32) (w_bb : Nat → Int32) (w_m : Nat → Int32) (w_v : Nat → Int32) (σ : k_SB) : Option (Int32) :=
  if s0 = s1 then
    (bd (fx_surely σ) fun t2 =>
     lt (ux_surely σ t2) fun σ3 =>
     bd (fx_could σ3) fun t5 =>
     lt (ux_could σ3 t5) fun σ6 =>
     if (t2.1 &&& (t5.1 ^^^ (-1 : Int32))) = 0 then
       f_L_law_1559 cL cX k286 kFU x5 x6 x7 (-1 : Int32) (0 : Int32) w_bb w_m w_v σ6
     else
       some (0 : Int32))
  else
    some (0 : Int32)
def f_L_law_1529 (cL : Nat) (cX : Nat → Int32) (k286 : Int32 → (Nat → Int32) → (Nat → Int32) → (Nat → Int32) → k_SB → Option (Int32)) (x5 : Int32) (x6 : Int32) (x7 : Int32) (s0 : Int32) (w_bb : Nat → Int32) (w_m : Nat → Int32) (w_v : Nat → Int32) (σ : k_SB) : Option (Int32) :=
  f_L_law_1534 cL cX k286 x5 x6 x7 s0 (1 : Int32) w_bb w_m w_v σ
def f_L_law_1517 (cL : Nat) (cX : Nat → Int32) (k286 : Int32 → (Nat → Int32) → (Nat → Int32) → (Nat → Int32) → k_SB → Option (Int32)) (x5 : Int32) (x6 : Int32) (x7 : Int32) (s0 : Int32) (w_bb : Nat → Int32) (w_m : Nat → Int32) (w_v : Nat → Int32) (σ : k_SB) : Option (Int32) :=
  if x7 = 0 then
    f_L_law_1529 cL cX k286 x5 x6 x7 s0 w_bb w_m w_v σ
  else
    (gd (inR (9 : Int32) 21) <|
     if (w_bb (9 : Int32).toNatClampNeg) = 0 then
       f_L_law_1529 cL cX k286 x5 x6 x7 s0 w_bb w_m w_v σ
     else
       f_L_law_1534 cL cX k286 x5 x6 x7 s0 (0 : Int32) w_bb w_m w_v σ)
def f_L_law_1496 (cL : Nat) (cX : Nat → Int32) (k286 : Int32 → (Nat → Int32) → (Nat → Int32) → (Nat → Int32) → k_SB → Option (Int32)) (x5 : Int32) (x6 : Int32) (x7 : Int32) (w_bb : Nat → Int32) (w_m : Nat → Int32) (w_v : Nat → Int32) (σ : k_SB) : Option (Int32) :=
  bd (fx_askLeaves σ) fun t1 =>
  lt (ux_askLeaves σ t1) fun σ2 =>
  if x7 < t1.1 then
    some (0 : Int32)
  else
    (bd (fx_ask σ2) fun t5 =>
     lt (ux_ask σ2 t5) fun σ6 =>
     if 0 ≤ t5.1 then
       f_L_law_1517 cL cX k286 x5 x6 x7 (0 : Int32) w_bb w_m w_v σ6
     else
       f_L_law_1517 cL cX k286 x5 x6 x7 (1 : Int32) w_bb w_m w_v σ6)
def f_L_law_305 (cL : Nat) (cX : Nat → Int32) (k286 : Int32 → (Nat → Int32) → (Nat → Int32) → (Nat → Int32) → k_SB → Option (Int32)) : Nat → Int32 → Int32 → Int32 → (Nat → Int32) → (Nat → Int32) → (Nat → Int32) → k_SB → Option (Int32)
  | 0, _, _, _, _, _, _, _ => none
  | n + 1, x5, x6, x7, w_bb, w_m, w_v, σ =>
    gd (inR (4 : Int32) 21) <|
    if (w_bb (4 : Int32).toNatClampNeg) ≤ x7 then
      (bd (fx_fits σ) fun t3 =>
       lt (ux_fits σ t3) fun σ4 =>
       gd (inR (9 : Int32) 21) <|
       if ((1 : Int32) <<< ((w_bb (9 : Int32).toNatClampNeg) &&& 31)) < t3.1 then
         some (0 : Int32)
       else
         (bd (fx_judge σ4) fun t8 =>
          lt (ux_judge σ4 t8) fun σ9 =>
          if 0 ≤ t8.1 then
            f_L_law_1496 cL cX k286 x5 x6 t3.1 w_bb w_m w_v σ9
          else
            (if t3.1 = 0 then
               some (0 : Int32)
             else
               f_L_law_1496 cL cX k286 x5 x6 t3.1 w_bb w_m w_v σ9)))
    else
      (bd (fx_stack x7 (0 : Int32) σ) fun t13 =>
       lt (ux_stack σ t13) fun σ14 =>
       bd (fx_stack x7 (1 : Int32) σ14) fun t16 =>
       lt (ux_stack σ14 t16) fun σ17 =>
       bd (fx_stack x7 (2 : Int32) σ17) fun t19 =>
       lt (ux_stack σ17 t19) fun σ20 =>
       if t19.1 = t13.1 then
         f_L_law_356 cL cX k286 (fun x5 x6 x7 w_bb w_m w_v σ => f_L_law_305 cL cX k286 n x5 x6 x7 w_bb w_m w_v σ) x5 x6 x7 t13.1 t16.1 t19.1 w_bb w_m w_v σ20
       else
         (if t19.1 = ((3 : Int32) * t13.1) then
            f_L_law_356 cL cX k286 (fun x5 x6 x7 w_bb w_m w_v σ => f_L_law_305 cL cX k286 n x5 x6 x7 w_bb w_m w_v σ) x5 x6 x7 t13.1 t16.1 t19.1 w_bb w_m w_v σ20
          else
            some (0 : Int32)))
def f_L_law_1920 (cL : Nat) (cX : Nat → Int32) : Nat → Int32 → (Nat → Int32) → (Nat → Int32) → (Nat → Int32) → k_SB → Option (Int32)
  | 0, _, _, _, _, _ => none
  | n + 1, x5, w_bb, w_m, w_v, σ =>
    gd (inR (4 : Int32) 21) <|
    if (w_bb (4 : Int32).toNatClampNeg) ≤ x5 then
      some (1 : Int32)
    else
      (bd (fx_stack x5 (0 : Int32) σ) fun t3 =>
       lt (ux_stack σ t3) fun σ4 =>
       gd (inR ((5 : Int32) + ((2 : Int32) * x5)) 21) <|
       if t3.1 = (w_bb ((5 : Int32) + ((2 : Int32) * x5)).toNatClampNeg) then
         (bd (fx_stack x5 (1 : Int32) σ4) fun t8 =>
          lt (ux_stack σ4 t8) fun σ9 =>
          gd (inR ((6 : Int32) + ((2 : Int32) * x5)) 21) <|
          if t8.1 = (w_bb ((6 : Int32) + ((2 : Int32) * x5)).toNatClampNeg) then
            f_L_law_1920 cL cX n (x5 + 1) w_bb w_m w_v σ9
          else
            some (0 : Int32))
       else
         some (0 : Int32))
def f_L_law_286 (cL : Nat) (cX : Nat → Int32) : Nat → Int32 → (Nat → Int32) → (Nat → Int32) → (Nat → Int32) → k_SB → Option (Int32)
  | 0, _, _, _, _, _ => none
  | n + 1, x5, w_bb, w_m, w_v, σ =>
    if (4 : Int32) ≤ x5 then
      (bd (fx_back (0 : Int32) σ) fun t2 =>
       lt (ux_back σ t2) fun σ3 =>
       if t2.1 = 0 then
         some (0 : Int32)
       else
         (bd (fx_undo σ3) fun t6 =>
          lt (ux_undo σ3 t6) fun σ7 =>
          if t6.1 = 0 then
            (bd (fx_size (7 : Int32) σ7) fun t10 =>
             lt (ux_size σ7 t10) fun σ11 =>
             if t10 = 0 then
               f_L_law_1920 cL cX kFU (0 : Int32) w_bb w_m w_v σ11
             else
               some (0 : Int32))
          else
            some (0 : Int32)))
    else
      (bd (f_L_cell cL cX ((3 : Int32) + x5)) fun t14 =>
       f_L_law_305 cL cX (fun x5 w_bb w_m w_v σ => f_L_law_286 cL cX n x5 w_bb w_m w_v σ) kFU x5 t14 (0 : Int32) w_bb w_m w_v σ)
def f_L_law_48 (cL : Nat) (cX : Nat → Int32) : Nat → Int32 → (Nat → Int32) → (Nat → Int32) → (Nat → Int32) → k_SB → Option (Int32)
  | 0, _, _, _, _, _ => none
  | n + 1, x5, w_bb, w_m, w_v, σ =>
    if (7 : Int32) ≤ x5 then
      f_L_law_286 cL cX kFU (0 : Int32) w_bb w_m w_v σ
    else
      (bd (fx_groundMany x5 σ) fun t2 =>
       lt (ux_groundMany σ t2) fun σ3 =>
       if t2.1 < (2 : Int32) then
         some (0 : Int32)
       else
         (if ((1 : Int32) <<< (x5 &&& 31)) < t2.1 then
            some (0 : Int32)
          else
            (bd (fx_groundRow x5 σ3) fun t7 =>
             lt (ux_groundRow σ3 t7) fun σ8 =>
             if ((1 : Int32) <<< (x5 &&& 31)) ≤ t7.1 then
               some (0 : Int32)
             else
               (bd (fx_groundRow x5 σ8) fun t11 =>
                lt (ux_groundRow σ8 t11) fun σ12 =>
                bd (f_L_energy x5 t11.1 w_bb) fun t14 =>
                bd (fx_ground x5 σ12) fun t16 =>
                lt (ux_ground σ12 t16) fun σ17 =>
                if t14 = t16.1 then
                  f_L_law_122 cL cX (fun x5 w_bb w_m w_v σ => f_L_law_48 cL cX n x5 w_bb w_m w_v σ) kFU x5 (9999 : Int32) (0 : Int32) w_bb w_m w_v σ17
                else
                  some (0 : Int32)))))
def f_L_law_23 (cL : Nat) (cX : Nat → Int32) (w_bb : Nat → Int32) (w_m : Nat → Int32) (w_v : Nat → Int32) (σ : k_SB) : Option (Int32) :=
  bd (f_L_told cL cX (0 : Int32) w_m w_bb w_v σ) fun t1 =>
  if t1.1 = 0 then
    some (0 : Int32)
  else
    (bd (fx_image t1.2.2.2.2) fun t4 =>
     lt (ux_image t1.2.2.2.2 t4) fun σ5 =>
     if t4.1 = 0 then
       f_L_law_48 cL cX kFU (2 : Int32) t1.2.2.1 t1.2.1 t1.2.2.2.1 σ5
     else
       some (0 : Int32))
set_option maxHeartbeats 4000000 in
set_option maxRecDepth 100000 in
theorem t_L_law_231 {l : Launch} {G : k_G} {p : Program} {e : Env} {s : State} {m : MethodId} {b : Nat} {below : List Frame} {meth : Method} {c : Code} {A : Nat → Prop} {h_bb h_m h_v h_o : Nat} (C0 : k_C G p s m #[Value.ref b] meth c A code RL lw_tbl 21 (some .boolean) meth.name) (hAs : ∀ q, A q → s.heap.size ≤ q) (k48 : Int32 → (Nat → Int32) → (Nat → Int32) → (Nat → Int32) → k_SB → Option (Int32)) (hk48 : ∀ (w : va_W) (x5 : Int32) (w_bb : Nat → Int32) (w_m : Nat → Int32) (w_v : Nat → Int32) (σ : k_SB) (H : Heap) (locs : List Loc) (ls : Array Slot), XW G h_o σ w → va_P G.1 vwCl ([(h_bb, .inl (k_cI G, 21, .inl w_bb)), (h_m, .inl (k_cI G, 7, .inl w_m)), (h_v, .inl (k_cI G, 4, .inl w_v))] ++ w) H → va_D A ([(h_bb, .inl (k_cI G, 21, .inl w_bb)), (h_m, .inl (k_cI G, 7, .inl w_m)), (h_v, .inl (k_cI G, 4, .inl w_v))] ++ w) → va_S A s.heap H locs → lv_has ls 21 [(0, .ref (k_xB G)), (1, .ref h_o), (3, .ref h_bb), (4, .ref h_v), (5, .int x5)] → k48 x5 w_bb w_m w_v σ = some (1 : Int32) → W p l e room_1 s m #[Value.ref b] below meth c H locs 44 13141 (lw_Z below #[Value.ref b] s) (F0 m 48 ls [])) (k122 : Int32 → Int32 → Int32 → (Nat → Int32) → (Nat → Int32) → (Nat → Int32) → k_SB → Option (Int32)) (hk122 : ∀ (w : va_W) (x5 : Int32) (x7 : Int32) (x8 : Int32) (w_bb : Nat → Int32) (w_m : Nat → Int32) (w_v : Nat → Int32) (σ : k_SB) (H : Heap) (locs : List Loc) (ls : Array Slot), XW G h_o σ w → va_P G.1 vwCl ([(h_bb, .inl (k_cI G, 21, .inl w_bb)), (h_m, .inl (k_cI G, 7, .inl w_m)), (h_v, .inl (k_cI G, 4, .inl w_v))] ++ w) H → va_D A ([(h_bb, .inl (k_cI G, 21, .inl w_bb)), (h_m, .inl (k_cI G, 7, .inl w_m)), (h_v, .inl (k_cI G, 4, .inl w_v))] ++ w) → va_S A s.heap H locs → lv_has ls 21 [(0, .ref (k_xB G)), (1, .ref h_o), (3, .ref h_bb), (4, .ref h_v), (5, .int x5), (7, .int x7), (8, .int x8)] → k122 x5 x7 x8 w_bb w_m w_v σ = some (1 : Int32) → W p l e room_1 s m #[Value.ref b] below meth c H locs 44 13141 (lw_Z below #[Value.ref b] s) (F0 m 122 ls [])) : ∀ (w : va_W) (x5 : Int32) (x7 : Int32) (x8 : Int32) (w_bb : Nat → Int32) (w_m : Nat → Int32) (w_v : Nat → Int32) (σ : k_SB) (H : Heap) (locs : List Loc) (ls : Array Slot), XW G h_o σ w → va_P G.1 vwCl ([(h_bb, .inl (k_cI G, 21, .inl w_bb)), (h_m, .inl (k_cI G, 7, .inl w_m)), (h_v, .inl (k_cI G, 4, .inl w_v))] ++ w) H → va_D A ([(h_bb, .inl (k_cI G, 21, .inl w_bb)), (h_m, .inl (k_cI G, 7, .inl w_m)), (h_v, .inl (k_cI G, 4, .inl w_v))] ++ w) → va_S A s.heap H locs → lv_has ls 21 [(0, .ref (k_xB G)), (1, .ref h_o), (3, .ref h_bb), (4, .ref h_v), (5, .int x5), (7, .int x7), (8, .int x8)] → f_L_law_231 (k_xL G) (k_xs G) k48 k122 x5 x7 x8 w_bb w_m w_v σ = some (1 : Int32) → W p l e room_1 s m #[Value.ref b] below meth c H locs 44 13141 (lw_Z below #[Value.ref b] s) (F0 m 231 ls []) := by
  have hx := C0.1
  have hb := C0.2.1
  have hts := C0.2.2.2.1
  have hown := C0.2.2.2.2.1
  have hK := C0.2.2.2.2.2.2.2.2.1.1
  have hNW := C0.2.2.2.2.2.2.2.2.1.2.1
  have hSF := C0.2.2.2.2.2.2.2.2.1.2.2
  intro w x5 x7 x8 w_bb w_m w_v σ H locs ls hXW hP hD hS hl hrun
  rw [f_L_law_231] at hrun
  refine lv_iinc (v := x8 + 1) (lv' := [(8, .int (x8 + 1)), (0, .ref (k_xB G)), (1, .ref h_o), (3, .ref h_bb), (4, .ref h_v), (5, .int x5), (7, .int x7)]) hx hb dL_law_231 hl (k := 6) rfl rfl (by decide) rfl (fun ls hl => ?_)
  refine lv_goto (tgt := 122) hx hb dL_law_234 (by decide) ?_
  exact hk122 w x5 x7 (x8 + 1) w_bb w_m w_v σ _ _ _ hXW hP hD hS (lv_sub hl [1, 2, 3, 4, 5, 6, 0] rfl) hrun
set_option maxHeartbeats 4000000 in
set_option maxRecDepth 100000 in
theorem t_L_law_190 {l : Launch} {G : k_G} {p : Program} {e : Env} {s : State} {m : MethodId} {b : Nat} {below : List Frame} {meth : Method} {c : Code} {A : Nat → Prop} {h_bb h_m h_v h_o : Nat} (C0 : k_C G p s m #[Value.ref b] meth c A code RL lw_tbl 21 (some .boolean) meth.name) (hAs : ∀ q, A q → s.heap.size ≤ q) (k48 : Int32 → (Nat → Int32) → (Nat → Int32) → (Nat → Int32) → k_SB → Option (Int32)) (hk48 : ∀ (w : va_W) (x5 : Int32) (w_bb : Nat → Int32) (w_m : Nat → Int32) (w_v : Nat → Int32) (σ : k_SB) (H : Heap) (locs : List Loc) (ls : Array Slot), XW G h_o σ w → va_P G.1 vwCl ([(h_bb, .inl (k_cI G, 21, .inl w_bb)), (h_m, .inl (k_cI G, 7, .inl w_m)), (h_v, .inl (k_cI G, 4, .inl w_v))] ++ w) H → va_D A ([(h_bb, .inl (k_cI G, 21, .inl w_bb)), (h_m, .inl (k_cI G, 7, .inl w_m)), (h_v, .inl (k_cI G, 4, .inl w_v))] ++ w) → va_S A s.heap H locs → lv_has ls 21 [(0, .ref (k_xB G)), (1, .ref h_o), (3, .ref h_bb), (4, .ref h_v), (5, .int x5)] → k48 x5 w_bb w_m w_v σ = some (1 : Int32) → W p l e room_1 s m #[Value.ref b] below meth c H locs 44 13141 (lw_Z below #[Value.ref b] s) (F0 m 48 ls [])) (k122 : Int32 → Int32 → Int32 → (Nat → Int32) → (Nat → Int32) → (Nat → Int32) → k_SB → Option (Int32)) (hk122 : ∀ (w : va_W) (x5 : Int32) (x7 : Int32) (x8 : Int32) (w_bb : Nat → Int32) (w_m : Nat → Int32) (w_v : Nat → Int32) (σ : k_SB) (H : Heap) (locs : List Loc) (ls : Array Slot), XW G h_o σ w → va_P G.1 vwCl ([(h_bb, .inl (k_cI G, 21, .inl w_bb)), (h_m, .inl (k_cI G, 7, .inl w_m)), (h_v, .inl (k_cI G, 4, .inl w_v))] ++ w) H → va_D A ([(h_bb, .inl (k_cI G, 21, .inl w_bb)), (h_m, .inl (k_cI G, 7, .inl w_m)), (h_v, .inl (k_cI G, 4, .inl w_v))] ++ w) → va_S A s.heap H locs → lv_has ls 21 [(0, .ref (k_xB G)), (1, .ref h_o), (3, .ref h_bb), (4, .ref h_v), (5, .int x5), (7, .int x7), (8, .int x8)] → k122 x5 x7 x8 w_bb w_m w_v σ = some (1 : Int32) → W p l e room_1 s m #[Value.ref b] below meth c H locs 44 13141 (lw_Z below #[Value.ref b] s) (F0 m 122 ls [])) : ∀ (w : va_W) (x5 : Int32) (x7 : Int32) (x8 : Int32) (x9 : Int32) (w_bb : Nat → Int32) (w_m : Nat → Int32) (w_v : Nat → Int32) (σ : k_SB) (H : Heap) (locs : List Loc) (ls : Array Slot), XW G h_o σ w → va_P G.1 vwCl ([(h_bb, .inl (k_cI G, 21, .inl w_bb)), (h_m, .inl (k_cI G, 7, .inl w_m)), (h_v, .inl (k_cI G, 4, .inl w_v))] ++ w) H → va_D A ([(h_bb, .inl (k_cI G, 21, .inl w_bb)), (h_m, .inl (k_cI G, 7, .inl w_m)), (h_v, .inl (k_cI G, 4, .inl w_v))] ++ w) → va_S A s.heap H locs → lv_has ls 21 [(0, .ref (k_xB G)), (1, .ref h_o), (3, .ref h_bb), (4, .ref h_v), (5, .int x5), (7, .int x7), (8, .int x8), (9, .int x9)] → f_L_law_190 (k_xL G) (k_xs G) k48 k122 x5 x7 x8 x9 w_bb w_m w_v σ = some (1 : Int32) → W p l e room_1 s m #[Value.ref b] below meth c H locs 44 13141 (lw_Z below #[Value.ref b] s) (F0 m 190 ls []) := by
  have hx := C0.1
  have hb := C0.2.1
  have hts := C0.2.2.2.1
  have hown := C0.2.2.2.2.1
  have hK := C0.2.2.2.2.2.2.2.2.1.1
  have hNW := C0.2.2.2.2.2.2.2.2.1.2.1
  have hSF := C0.2.2.2.2.2.2.2.2.1.2.2
  intro w x5 x7 x8 x9 w_bb w_m w_v σ H locs ls hXW hP hD hS hl hrun
  rw [f_L_law_190] at hrun
  refine lv_aload_n hx hb dL_law_190 rfl (lv_at hl 1 rfl) ?_
  refine lv_iload hx hb dL_law_191 (lv_at hl 4 rfl) ?_
  refine lv_iload hx hb dL_law_193 (lv_at hl 6 rfl) ?_
  refine lv_iconst (v := 1) hx hb dL_law_195 (by decide) ?_
  obtain ⟨t1, et1, hrun⟩ := bd_inv hrun
  obtain ⟨σ2, eσ2, hrun⟩ := lt_inv hrun
  obtain ⟨fs9, he9⟩ := XW_head hXW
  refine lw_callVi (wr := [(h_bb, .inl (k_cI G, 21, .inl w_bb)), (h_m, .inl (k_cI G, 7, .inl w_m)), (h_v, .inl (k_cI G, 4, .inl w_v))]) (rest := []) C0 (lx_kinds hXW et1 H.size) (cwV 3 hts gL_law_X11_kinds rfl rfl rfl e_X11_kinds ⟨Nat.le_of_ble_eq_true rfl, Nat.le_of_ble_eq_true rfl⟩) hP hD hS rfl rfl he9 rfl hl.1 rfl (Nat.le_of_ble_eq_true rfl) dL_law_196 ⟨Nat.le_of_ble_eq_true rfl, Nat.le_of_ble_eq_true rfl⟩ (fun w3 H locs hXW hP hD hS => ?_)
  replace hXW : XW G h_o σ2 w3 := by rw [eσ2]; exact hXW
  clear et1 eσ2 he9
  refine lv_iload hx hb dL_law_199 (lv_at hl 7 rfl) ?_
  refine lv_icmp_gt (tgt := 218) hx hb dL_law_201 (by decide) (fun q4 => ?_) (fun q4 => ?_)
  · replace hrun := if_t q4 hrun
    refine lv_iconst (v := 0) hx hb dL_law_218 (by decide) ?_
    exact absurd (Option.some.inj hrun) (by decide)
  · replace hrun := if_f q4 hrun
    refine lv_iload hx hb dL_law_204 (lv_at hl 7 rfl) ?_
    refine lv_iconst (v := 4) hx hb dL_law_206 (by decide) ?_
    refine lv_imul hx hb dL_law_207 ?_
    refine lv_iload hx hb dL_law_208 (lv_at hl 4 rfl) ?_
    refine lv_imul hx hb dL_law_210 ?_
    refine lv_iconst (v := 1) hx hb dL_law_211 (by decide) ?_
    refine lv_iload hx hb dL_law_212 (lv_at hl 4 rfl) ?_
    refine lv_ishl hx hb dL_law_214 ?_
    refine lv_icmp_ge (tgt := 220) hx hb dL_law_215 (by decide) (fun q5 => ?_) (fun q5 => ?_)
    · replace hrun := if_t q5 hrun
      refine lv_iload hx hb dL_law_220 (lv_at hl 7 rfl) ?_
      refine lv_iload hx hb dL_law_222 (lv_at hl 5 rfl) ?_
      refine lv_icmp_ge (tgt := 231) hx hb dL_law_224 (by decide) (fun q6 => ?_) (fun q6 => ?_)
      · replace hrun := if_t q6 hrun
        exact t_L_law_231 C0 hAs k48 hk48 k122 hk122 w3 x5 x7 x8 w_bb w_m w_v σ2 _ _ _ hXW hP hD hS (lv_sub hl [0, 1, 2, 3, 4, 5, 6] rfl) hrun
      · replace hrun := if_f q6 hrun
        refine lv_iload hx hb dL_law_227 (lv_at hl 7 rfl) ?_
        refine lv_istore (lv' := [(7, .int x9), (0, .ref (k_xB G)), (1, .ref h_o), (3, .ref h_bb), (4, .ref h_v), (5, .int x5), (8, .int x8), (9, .int x9)]) hx hb dL_law_229 hl (by decide) rfl (fun ls hl => ?_)
        exact t_L_law_231 C0 hAs k48 hk48 k122 hk122 w3 x5 x9 x8 w_bb w_m w_v σ2 _ _ _ hXW hP hD hS (lv_sub hl [1, 2, 3, 4, 5, 0, 6] rfl) hrun
    · replace hrun := if_f q5 hrun
      refine lv_iconst (v := 0) hx hb dL_law_218 (by decide) ?_
      exact absurd (Option.some.inj hrun) (by decide)
set_option maxHeartbeats 4000000 in
set_option maxRecDepth 100000 in
theorem t_L_law_122 {l : Launch} {G : k_G} {p : Program} {e : Env} {s : State} {m : MethodId} {b : Nat} {below : List Frame} {meth : Method} {c : Code} {A : Nat → Prop} {h_bb h_m h_v h_o : Nat} (C0 : k_C G p s m #[Value.ref b] meth c A code RL lw_tbl 21 (some .boolean) meth.name) (hAs : ∀ q, A q → s.heap.size ≤ q) (k48 : Int32 → (Nat → Int32) → (Nat → Int32) → (Nat → Int32) → k_SB → Option (Int32)) (hk48 : ∀ (w : va_W) (x5 : Int32) (w_bb : Nat → Int32) (w_m : Nat → Int32) (w_v : Nat → Int32) (σ : k_SB) (H : Heap) (locs : List Loc) (ls : Array Slot), XW G h_o σ w → va_P G.1 vwCl ([(h_bb, .inl (k_cI G, 21, .inl w_bb)), (h_m, .inl (k_cI G, 7, .inl w_m)), (h_v, .inl (k_cI G, 4, .inl w_v))] ++ w) H → va_D A ([(h_bb, .inl (k_cI G, 21, .inl w_bb)), (h_m, .inl (k_cI G, 7, .inl w_m)), (h_v, .inl (k_cI G, 4, .inl w_v))] ++ w) → va_S A s.heap H locs → lv_has ls 21 [(0, .ref (k_xB G)), (1, .ref h_o), (3, .ref h_bb), (4, .ref h_v), (5, .int x5)] → k48 x5 w_bb w_m w_v σ = some (1 : Int32) → W p l e room_1 s m #[Value.ref b] below meth c H locs 44 13141 (lw_Z below #[Value.ref b] s) (F0 m 48 ls [])) : ∀ (n : Nat) (w : va_W) (x5 : Int32) (x7 : Int32) (x8 : Int32) (w_bb : Nat → Int32) (w_m : Nat → Int32) (w_v : Nat → Int32) (σ : k_SB) (H : Heap) (locs : List Loc) (ls : Array Slot), XW G h_o σ w → va_P G.1 vwCl ([(h_bb, .inl (k_cI G, 21, .inl w_bb)), (h_m, .inl (k_cI G, 7, .inl w_m)), (h_v, .inl (k_cI G, 4, .inl w_v))] ++ w) H → va_D A ([(h_bb, .inl (k_cI G, 21, .inl w_bb)), (h_m, .inl (k_cI G, 7, .inl w_m)), (h_v, .inl (k_cI G, 4, .inl w_v))] ++ w) → va_S A s.heap H locs → lv_has ls 21 [(0, .ref (k_xB G)), (1, .ref h_o), (3, .ref h_bb), (4, .ref h_v), (5, .int x5), (7, .int x7), (8, .int x8)] → f_L_law_122 (k_xL G) (k_xs G) k48 n x5 x7 x8 w_bb w_m w_v σ = some (1 : Int32) → W p l e room_1 s m #[Value.ref b] below meth c H locs 44 13141 (lw_Z below #[Value.ref b] s) (F0 m 122 ls []) := by
  have hx := C0.1
  have hb := C0.2.1
  have hts := C0.2.2.2.1
  have hown := C0.2.2.2.2.1
  have hK := C0.2.2.2.2.2.2.2.2.1.1
  have hNW := C0.2.2.2.2.2.2.2.2.1.2.1
  have hSF := C0.2.2.2.2.2.2.2.2.1.2.2
  intro n
  induction n with
  | zero =>
    intro w x5 x7 x8 w_bb w_m w_v σ H locs ls hXW hP hD hS hl hrun
    rw [f_L_law_122] at hrun
    cases hrun
  | succ n ih =>
    intro w x5 x7 x8 w_bb w_m w_v σ H locs ls hXW hP hD hS hl hrun
    rw [f_L_law_122] at hrun
    refine lv_iload hx hb dL_law_122 (lv_at hl 6 rfl) ?_
    refine lv_iconst (v := 4) hx hb dL_law_124 (by decide) ?_
    refine lv_icmp_ge (tgt := 237) hx hb dL_law_125 (by decide) (fun q1 => ?_) (fun q1 => ?_)
    · replace hrun := if_t q1 hrun
      refine lv_iload hx hb dL_law_237 (lv_at hl 5 rfl) ?_
      refine lv_aload_n hx hb dL_law_239 rfl (lv_at hl 1 rfl) ?_
      refine lv_iload hx hb dL_law_240 (lv_at hl 4 rfl) ?_
      refine lv_iconst (v := 3) hx hb dL_law_242 (by decide) ?_
      refine lv_iconst (v := 0) hx hb dL_law_243 (by decide) ?_
      obtain ⟨t2, et2, hrun⟩ := bd_inv hrun
      obtain ⟨σ3, eσ3, hrun⟩ := lt_inv hrun
      obtain ⟨fs9, he9⟩ := XW_head hXW
      refine lw_callVi (wr := [(h_bb, .inl (k_cI G, 21, .inl w_bb)), (h_m, .inl (k_cI G, 7, .inl w_m)), (h_v, .inl (k_cI G, 4, .inl w_v))]) (rest := [.int x7]) C0 (lx_kinds hXW et2 H.size) (cwV 3 hts gL_law_X11_kinds rfl rfl rfl e_X11_kinds ⟨Nat.le_of_ble_eq_true rfl, Nat.le_of_ble_eq_true rfl⟩) hP hD hS rfl rfl he9 rfl hl.1 rfl (Nat.le_of_ble_eq_true rfl) dL_law_244 ⟨Nat.le_of_ble_eq_true rfl, Nat.le_of_ble_eq_true rfl⟩ (fun w4 H locs hXW hP hD hS => ?_)
      replace hXW : XW G h_o σ3 w4 := by rw [eσ3]; exact hXW
      clear et2 eσ3 he9
      refine lv_icmp_ne (tgt := 275) hx hb dL_law_247 (by decide) (fun q5 => ?_) (fun q5 => ?_)
      · replace hrun := if_f q5 hrun
        refine lv_iconst (v := 0) hx hb dL_law_275 (by decide) ?_
        exact absurd (Option.some.inj hrun) (by decide)
      · replace hrun := if_t q5 hrun
        refine lv_aload_n hx hb dL_law_250 rfl (lv_at hl 1 rfl) ?_
        refine lv_aload_n hx hb dL_law_251 rfl (lv_at hl 1 rfl) ?_
        obtain ⟨t6, et6, hrun⟩ := bd_inv hrun
        obtain ⟨σ7, eσ7, hrun⟩ := lt_inv hrun
        obtain ⟨fs9, he9⟩ := XW_head hXW
        refine lw_callVi (wr := [(h_bb, .inl (k_cI G, 21, .inl w_bb)), (h_m, .inl (k_cI G, 7, .inl w_m)), (h_v, .inl (k_cI G, 4, .inl w_v))]) (rest := [.ref h_o]) C0 (lx_groundBest hXW et6 H.size) (cwV 0 hts gL_law_X11_groundBest rfl rfl rfl e_X11_groundBest ⟨Nat.le_of_ble_eq_true rfl, Nat.le_of_ble_eq_true rfl⟩) hP hD hS rfl rfl he9 rfl hl.1 rfl (Nat.le_of_ble_eq_true rfl) dL_law_252 ⟨Nat.le_of_ble_eq_true rfl, Nat.le_of_ble_eq_true rfl⟩ (fun w8 H locs hXW hP hD hS => ?_)
        replace hXW : XW G h_o σ7 w8 := by rw [eσ7]; exact hXW
        clear et6 eσ7 he9
        obtain ⟨t9, et9, hrun⟩ := bd_inv hrun
        obtain ⟨σ10, eσ10, hrun⟩ := lt_inv hrun
        obtain ⟨fs9, he9⟩ := XW_head hXW
        refine lw_callVi (wr := [(h_bb, .inl (k_cI G, 21, .inl w_bb)), (h_m, .inl (k_cI G, 7, .inl w_m)), (h_v, .inl (k_cI G, 4, .inl w_v))]) (rest := []) C0 (lx_ground hXW et9 H.size) (cwV 1 hts gL_law_X11_ground rfl rfl rfl e_X11_ground ⟨Nat.le_of_ble_eq_true rfl, Nat.le_of_ble_eq_true rfl⟩) hP hD hS rfl rfl he9 rfl hl.1 rfl (Nat.le_of_ble_eq_true rfl) dL_law_255 ⟨Nat.le_of_ble_eq_true rfl, Nat.le_of_ble_eq_true rfl⟩ (fun w11 H locs hXW hP hD hS => ?_)
        replace hXW : XW G h_o σ10 w11 := by rw [eσ10]; exact hXW
        clear et9 eσ10 he9
        refine lv_iload hx hb dL_law_258 (lv_at hl 4 rfl) ?_
        refine lv_imul hx hb dL_law_260 ?_
        refine lv_aload_n hx hb dL_law_261 rfl (lv_at hl 1 rfl) ?_
        refine lv_iload hx hb dL_law_262 (lv_at hl 4 rfl) ?_
        obtain ⟨t12, et12, hrun⟩ := bd_inv hrun
        obtain ⟨σ13, eσ13, hrun⟩ := lt_inv hrun
        obtain ⟨fs9, he9⟩ := XW_head hXW
        refine lw_callVi (wr := [(h_bb, .inl (k_cI G, 21, .inl w_bb)), (h_m, .inl (k_cI G, 7, .inl w_m)), (h_v, .inl (k_cI G, 4, .inl w_v))]) (rest := [.int (t9.1 * x5)]) C0 (lx_ground hXW et12 H.size) (cwV 1 hts gL_law_X11_ground rfl rfl rfl e_X11_ground ⟨Nat.le_of_ble_eq_true rfl, Nat.le_of_ble_eq_true rfl⟩) hP hD hS rfl rfl he9 rfl hl.1 rfl (Nat.le_of_ble_eq_true rfl) dL_law_264 ⟨Nat.le_of_ble_eq_true rfl, Nat.le_of_ble_eq_true rfl⟩ (fun w14 H locs hXW hP hD hS => ?_)
        replace hXW : XW G h_o σ13 w14 := by rw [eσ13]; exact hXW
        clear et12 eσ13 he9
        refine lv_aload_n hx hb dL_law_267 rfl (lv_at hl 1 rfl) ?_
        obtain ⟨t15, et15, hrun⟩ := bd_inv hrun
        obtain ⟨σ16, eσ16, hrun⟩ := lt_inv hrun
        obtain ⟨fs9, he9⟩ := XW_head hXW
        refine lw_callVi (wr := [(h_bb, .inl (k_cI G, 21, .inl w_bb)), (h_m, .inl (k_cI G, 7, .inl w_m)), (h_v, .inl (k_cI G, 4, .inl w_v))]) (rest := [.int t12.1, .int (t9.1 * x5)]) C0 (lx_groundBest hXW et15 H.size) (cwV 0 hts gL_law_X11_groundBest rfl rfl rfl e_X11_groundBest ⟨Nat.le_of_ble_eq_true rfl, Nat.le_of_ble_eq_true rfl⟩) hP hD hS rfl rfl he9 rfl hl.1 rfl (Nat.le_of_ble_eq_true rfl) dL_law_268 ⟨Nat.le_of_ble_eq_true rfl, Nat.le_of_ble_eq_true rfl⟩ (fun w17 H locs hXW hP hD hS => ?_)
        replace hXW : XW G h_o σ16 w17 := by rw [eσ16]; exact hXW
        clear et15 eσ16 he9
        refine lv_imul hx hb dL_law_271 ?_
        refine lv_icmp_le (tgt := 277) hx hb dL_law_272 (by decide) (fun q18 => ?_) (fun q18 => ?_)
        · replace hrun := if_t q18 hrun
          refine lv_iinc (v := x5 + 1) (lv' := [(5, .int (x5 + 1)), (0, .ref (k_xB G)), (1, .ref h_o), (3, .ref h_bb), (4, .ref h_v), (7, .int x7), (8, .int x8)]) hx hb dL_law_277 hl (k := 4) rfl rfl (by decide) rfl (fun ls hl => ?_)
          refine lv_goto (tgt := 48) hx hb dL_law_280 (by decide) ?_
          exact hk48 w17 (x5 + 1) w_bb w_m w_v σ16 _ _ _ hXW hP hD hS (lv_sub hl [1, 2, 3, 4, 0] rfl) hrun
        · replace hrun := if_f q18 hrun
          refine lv_iconst (v := 0) hx hb dL_law_275 (by decide) ?_
          exact absurd (Option.some.inj hrun) (by decide)
    · replace hrun := if_f q1 hrun
      refine lv_aload_n hx hb dL_law_128 rfl (lv_at hl 1 rfl) ?_
      refine lv_iload hx hb dL_law_129 (lv_at hl 4 rfl) ?_
      refine lv_iload hx hb dL_law_131 (lv_at hl 6 rfl) ?_
      refine lv_iconst (v := 0) hx hb dL_law_133 (by decide) ?_
      obtain ⟨t19, et19, hrun⟩ := bd_inv hrun
      obtain ⟨σ20, eσ20, hrun⟩ := lt_inv hrun
      obtain ⟨fs9, he9⟩ := XW_head hXW
      refine lw_callVi (wr := [(h_bb, .inl (k_cI G, 21, .inl w_bb)), (h_m, .inl (k_cI G, 7, .inl w_m)), (h_v, .inl (k_cI G, 4, .inl w_v))]) (rest := []) C0 (lx_kinds hXW et19 H.size) (cwV 3 hts gL_law_X11_kinds rfl rfl rfl e_X11_kinds ⟨Nat.le_of_ble_eq_true rfl, Nat.le_of_ble_eq_true rfl⟩) hP hD hS rfl rfl he9 rfl hl.1 rfl (Nat.le_of_ble_eq_true rfl) dL_law_134 ⟨Nat.le_of_ble_eq_true rfl, Nat.le_of_ble_eq_true rfl⟩ (fun w21 H locs hXW hP hD hS => ?_)
      replace hXW : XW G h_o σ20 w21 := by rw [eσ20]; exact hXW
      clear et19 eσ20 he9
      refine lv_istore (lv' := [(9, .int t19.1), (0, .ref (k_xB G)), (1, .ref h_o), (3, .ref h_bb), (4, .ref h_v), (5, .int x5), (7, .int x7), (8, .int x8)]) hx hb dL_law_137 hl (by decide) rfl (fun ls hl => ?_)
      refine lv_iload hx hb dL_law_139 (lv_at hl 0 rfl) ?_
      refine lv_iconst (v := 1) hx hb dL_law_141 (by decide) ?_
      refine lv_icmp_lt (tgt := 218) hx hb dL_law_142 (by decide) (fun q22 => ?_) (fun q22 => ?_)
      · replace hrun := if_t q22 hrun
        refine lv_iconst (v := 0) hx hb dL_law_218 (by decide) ?_
        exact absurd (Option.some.inj hrun) (by decide)
      · replace hrun := if_f q22 hrun
        refine lv_iload hx hb dL_law_145 (lv_at hl 0 rfl) ?_
        refine lv_aload_n hx hb dL_law_147 rfl (lv_at hl 2 rfl) ?_
        refine lv_iload hx hb dL_law_148 (lv_at hl 5 rfl) ?_
        refine lv_iconst (v := 0) hx hb dL_law_150 (by decide) ?_
        refine lv_iconst (v := 0) hx hb dL_law_151 (by decide) ?_
        obtain ⟨t23, et23, hrun⟩ := bd_inv hrun
        obtain ⟨σ24, eσ24, hrun⟩ := lt_inv hrun
        obtain ⟨fs9, he9⟩ := XW_head hXW
        refine lw_callVi (wr := [(h_bb, .inl (k_cI G, 21, .inl w_bb)), (h_m, .inl (k_cI G, 7, .inl w_m)), (h_v, .inl (k_cI G, 4, .inl w_v))]) (rest := [.int t19.1]) C0 (lx_kinds hXW et23 H.size) (cwV 3 hts gL_law_X11_kinds rfl rfl rfl e_X11_kinds ⟨Nat.le_of_ble_eq_true rfl, Nat.le_of_ble_eq_true rfl⟩) hP hD hS rfl rfl he9 rfl hl.1 rfl (Nat.le_of_ble_eq_true rfl) dL_law_152 ⟨Nat.le_of_ble_eq_true rfl, Nat.le_of_ble_eq_true rfl⟩ (fun w25 H locs hXW hP hD hS => ?_)
        replace hXW : XW G h_o σ24 w25 := by rw [eσ24]; exact hXW
        clear et23 eσ24 he9
        refine lv_icmp_gt (tgt := 218) hx hb dL_law_155 (by decide) (fun q26 => ?_) (fun q26 => ?_)
        · replace hrun := if_t q26 hrun
          refine lv_iconst (v := 0) hx hb dL_law_218 (by decide) ?_
          exact absurd (Option.some.inj hrun) (by decide)
        · replace hrun := if_f q26 hrun
          refine lv_iload hx hb dL_law_158 (lv_at hl 7 rfl) ?_
          refine lv_iconst (v := 3) hx hb dL_law_160 (by decide) ?_
          refine lv_icmp_ne (tgt := 190) hx hb dL_law_161 (by decide) (fun q27 => ?_) (fun q27 => ?_)
          · replace hrun := if_f q27 hrun
            exact t_L_law_190 C0 hAs k48 hk48 (fun x5 x7 x8 w_bb w_m w_v σ => f_L_law_122 (k_xL G) (k_xs G) k48 n x5 x7 x8 w_bb w_m w_v σ) ih w25 x5 x7 x8 t19.1 w_bb w_m w_v σ24 _ _ _ hXW hP hD hS (lv_sub hl [1, 2, 3, 4, 5, 6, 7, 0] rfl) hrun
          · replace hrun := if_t q27 hrun
            refine lv_iload hx hb dL_law_164 (lv_at hl 0 rfl) ?_
            refine lv_aload_n hx hb dL_law_166 rfl (lv_at hl 2 rfl) ?_
            refine lv_iload hx hb dL_law_167 (lv_at hl 5 rfl) ?_
            refine lv_iconst (v := 1) hx hb dL_law_169 (by decide) ?_
            refine lv_iconst (v := 0) hx hb dL_law_170 (by decide) ?_
            obtain ⟨t28, et28, hrun⟩ := bd_inv hrun
            obtain ⟨σ29, eσ29, hrun⟩ := lt_inv hrun
            obtain ⟨fs9, he9⟩ := XW_head hXW
            refine lw_callVi (wr := [(h_bb, .inl (k_cI G, 21, .inl w_bb)), (h_m, .inl (k_cI G, 7, .inl w_m)), (h_v, .inl (k_cI G, 4, .inl w_v))]) (rest := [.int t19.1]) C0 (lx_kinds hXW et28 H.size) (cwV 3 hts gL_law_X11_kinds rfl rfl rfl e_X11_kinds ⟨Nat.le_of_ble_eq_true rfl, Nat.le_of_ble_eq_true rfl⟩) hP hD hS rfl rfl he9 rfl hl.1 rfl (Nat.le_of_ble_eq_true rfl) dL_law_171 ⟨Nat.le_of_ble_eq_true rfl, Nat.le_of_ble_eq_true rfl⟩ (fun w30 H locs hXW hP hD hS => ?_)
            replace hXW : XW G h_o σ29 w30 := by rw [eσ29]; exact hXW
            clear et28 eσ29 he9
            refine lv_icmp_gt (tgt := 218) hx hb dL_law_174 (by decide) (fun q31 => ?_) (fun q31 => ?_)
            · replace hrun := if_t q31 hrun
              refine lv_iconst (v := 0) hx hb dL_law_218 (by decide) ?_
              exact absurd (Option.some.inj hrun) (by decide)
            · replace hrun := if_f q31 hrun
              refine lv_iload hx hb dL_law_177 (lv_at hl 0 rfl) ?_
              refine lv_aload_n hx hb dL_law_179 rfl (lv_at hl 2 rfl) ?_
              refine lv_iload hx hb dL_law_180 (lv_at hl 5 rfl) ?_
              refine lv_iconst (v := 2) hx hb dL_law_182 (by decide) ?_
              refine lv_iconst (v := 0) hx hb dL_law_183 (by decide) ?_
              obtain ⟨t32, et32, hrun⟩ := bd_inv hrun
              obtain ⟨σ33, eσ33, hrun⟩ := lt_inv hrun
              obtain ⟨fs9, he9⟩ := XW_head hXW
              refine lw_callVi (wr := [(h_bb, .inl (k_cI G, 21, .inl w_bb)), (h_m, .inl (k_cI G, 7, .inl w_m)), (h_v, .inl (k_cI G, 4, .inl w_v))]) (rest := [.int t19.1]) C0 (lx_kinds hXW et32 H.size) (cwV 3 hts gL_law_X11_kinds rfl rfl rfl e_X11_kinds ⟨Nat.le_of_ble_eq_true rfl, Nat.le_of_ble_eq_true rfl⟩) hP hD hS rfl rfl he9 rfl hl.1 rfl (Nat.le_of_ble_eq_true rfl) dL_law_184 ⟨Nat.le_of_ble_eq_true rfl, Nat.le_of_ble_eq_true rfl⟩ (fun w34 H locs hXW hP hD hS => ?_)
              replace hXW : XW G h_o σ33 w34 := by rw [eσ33]; exact hXW
              clear et32 eσ33 he9
              refine lv_icmp_gt (tgt := 218) hx hb dL_law_187 (by decide) (fun q35 => ?_) (fun q35 => ?_)
              · replace hrun := if_t q35 hrun
                refine lv_iconst (v := 0) hx hb dL_law_218 (by decide) ?_
                exact absurd (Option.some.inj hrun) (by decide)
              · replace hrun := if_f q35 hrun
                exact t_L_law_190 C0 hAs k48 hk48 (fun x5 x7 x8 w_bb w_m w_v σ => f_L_law_122 (k_xL G) (k_xs G) k48 n x5 x7 x8 w_bb w_m w_v σ) ih w34 x5 x7 x8 t19.1 w_bb w_m w_v σ33 _ _ _ hXW hP hD hS (lv_sub hl [1, 2, 3, 4, 5, 6, 7, 0] rfl) hrun
set_option maxHeartbeats 4000000 in
set_option maxRecDepth 100000 in
theorem t_L_law_589 {l : Launch} {G : k_G} {p : Program} {e : Env} {s : State} {m : MethodId} {b : Nat} {below : List Frame} {meth : Method} {c : Code} {A : Nat → Prop} {h_bb h_m h_v h_o : Nat} (C0 : k_C G p s m #[Value.ref b] meth c A code RL lw_tbl 21 (some .boolean) meth.name) (hAs : ∀ q, A q → s.heap.size ≤ q) (k286 : Int32 → (Nat → Int32) → (Nat → Int32) → (Nat → Int32) → k_SB → Option (Int32)) (hk286 : ∀ (w : va_W) (x5 : Int32) (w_bb : Nat → Int32) (w_m : Nat → Int32) (w_v : Nat → Int32) (σ : k_SB) (H : Heap) (locs : List Loc) (ls : Array Slot), XW G h_o σ w → va_P G.1 vwCl ([(h_bb, .inl (k_cI G, 21, .inl w_bb)), (h_m, .inl (k_cI G, 7, .inl w_m)), (h_v, .inl (k_cI G, 4, .inl w_v))] ++ w) H → va_D A ([(h_bb, .inl (k_cI G, 21, .inl w_bb)), (h_m, .inl (k_cI G, 7, .inl w_m)), (h_v, .inl (k_cI G, 4, .inl w_v))] ++ w) → va_S A s.heap H locs → lv_has ls 21 [(0, .ref (k_xB G)), (1, .ref h_o), (3, .ref h_bb), (4, .ref h_v), (5, .int x5)] → k286 x5 w_bb w_m w_v σ = some (1 : Int32) → W p l e room_1 s m #[Value.ref b] below meth c H locs 44 13141 (lw_Z below #[Value.ref b] s) (F0 m 286 ls [])) (k305 : Int32 → Int32 → Int32 → (Nat → Int32) → (Nat → Int32) → (Nat → Int32) → k_SB → Option (Int32)) (hk305 : ∀ (w : va_W) (x5 : Int32) (x6 : Int32) (x7 : Int32) (w_bb : Nat → Int32) (w_m : Nat → Int32) (w_v : Nat → Int32) (σ : k_SB) (H : Heap) (locs : List Loc) (ls : Array Slot), XW G h_o σ w → va_P G.1 vwCl ([(h_bb, .inl (k_cI G, 21, .inl w_bb)), (h_m, .inl (k_cI G, 7, .inl w_m)), (h_v, .inl (k_cI G, 4, .inl w_v))] ++ w) H → va_D A ([(h_bb, .inl (k_cI G, 21, .inl w_bb)), (h_m, .inl (k_cI G, 7, .inl w_m)), (h_v, .inl (k_cI G, 4, .inl w_v))] ++ w) → va_S A s.heap H locs → lv_has ls 21 [(0, .ref (k_xB G)), (1, .ref h_o), (3, .ref h_bb), (4, .ref h_v), (5, .int x5), (6, .int x6), (7, .int x7)] → k305 x5 x6 x7 w_bb w_m w_v σ = some (1 : Int32) → W p l e room_1 s m #[Value.ref b] below meth c H locs 44 13141 (lw_Z below #[Value.ref b] s) (F0 m 305 ls [])) (k516 : Int32 → Int32 → Int32 → Int32 → Int32 → Int32 → Int32 → (Nat → Int32) → (Nat → Int32) → (Nat → Int32) → k_SB → Option (Int32)) (hk516 : ∀ (w : va_W) (x5 : Int32) (x6 : Int32) (x7 : Int32) (x8 : Int32) (x9 : Int32) (x10 : Int32) (x12 : Int32) (w_bb : Nat → Int32) (w_m : Nat → Int32) (w_v : Nat → Int32) (σ : k_SB) (H : Heap) (locs : List Loc) (ls : Array Slot), XW G h_o σ w → va_P G.1 vwCl ([(h_bb, .inl (k_cI G, 21, .inl w_bb)), (h_m, .inl (k_cI G, 7, .inl w_m)), (h_v, .inl (k_cI G, 4, .inl w_v))] ++ w) H → va_D A ([(h_bb, .inl (k_cI G, 21, .inl w_bb)), (h_m, .inl (k_cI G, 7, .inl w_m)), (h_v, .inl (k_cI G, 4, .inl w_v))] ++ w) → va_S A s.heap H locs → lv_has ls 21 [(0, .ref (k_xB G)), (1, .ref h_o), (3, .ref h_bb), (4, .ref h_v), (5, .int x5), (6, .int x6), (7, .int x7), (8, .int x8), (9, .int x9), (10, .int x10), (12, .int x12)] → k516 x5 x6 x7 x8 x9 x10 x12 w_bb w_m w_v σ = some (1 : Int32) → W p l e room_1 s m #[Value.ref b] below meth c H locs 44 13141 (lw_Z below #[Value.ref b] s) (F0 m 516 ls [])) : ∀ (w : va_W) (x5 : Int32) (x6 : Int32) (x7 : Int32) (x8 : Int32) (x9 : Int32) (x10 : Int32) (x12 : Int32) (s0 : Int32) (s1 : Int32) (w_bb : Nat → Int32) (w_m : Nat → Int32) (w_v : Nat → Int32) (σ : k_SB) (H : Heap) (locs : List Loc) (ls : Array Slot), XW G h_o σ w → va_P G.1 vwCl ([(h_bb, .inl (k_cI G, 21, .inl w_bb)), (h_m, .inl (k_cI G, 7, .inl w_m)), (h_v, .inl (k_cI G, 4, .inl w_v))] ++ w) H → va_D A ([(h_bb, .inl (k_cI G, 21, .inl w_bb)), (h_m, .inl (k_cI G, 7, .inl w_m)), (h_v, .inl (k_cI G, 4, .inl w_v))] ++ w) → va_S A s.heap H locs → lv_has ls 21 [(0, .ref (k_xB G)), (1, .ref h_o), (3, .ref h_bb), (4, .ref h_v), (5, .int x5), (6, .int x6), (7, .int x7), (8, .int x8), (9, .int x9), (10, .int x10), (12, .int x12)] → f_L_law_589 (k_xL G) (k_xs G) k286 k305 k516 x5 x6 x7 x8 x9 x10 x12 s0 s1 w_bb w_m w_v σ = some (1 : Int32) → W p l e room_1 s m #[Value.ref b] below meth c H locs 44 13141 (lw_Z below #[Value.ref b] s) (F0 m 589 ls [.int s1, .int s0]) := by
  have hx := C0.1
  have hb := C0.2.1
  have hts := C0.2.2.2.1
  have hown := C0.2.2.2.2.1
  have hK := C0.2.2.2.2.2.2.2.2.1.1
  have hNW := C0.2.2.2.2.2.2.2.2.1.2.1
  have hSF := C0.2.2.2.2.2.2.2.2.1.2.2
  intro w x5 x6 x7 x8 x9 x10 x12 s0 s1 w_bb w_m w_v σ H locs ls hXW hP hD hS hl hrun
  rw [f_L_law_589] at hrun
  refine lv_icmp_eq (tgt := 594) hx hb dL_law_589 (by decide) (fun q1 => ?_) (fun q1 => ?_)
  · replace hrun := if_t q1 hrun
    refine lv_iinc (v := x12 + 1) (lv' := [(12, .int (x12 + 1)), (0, .ref (k_xB G)), (1, .ref h_o), (3, .ref h_bb), (4, .ref h_v), (5, .int x5), (6, .int x6), (7, .int x7), (8, .int x8), (9, .int x9), (10, .int x10)]) hx hb dL_law_594 hl (k := 10) rfl rfl (by decide) rfl (fun ls hl => ?_)
    refine lv_goto (tgt := 516) hx hb dL_law_597 (by decide) ?_
    exact hk516 w x5 x6 x7 x8 x9 x10 (x12 + 1) w_bb w_m w_v σ _ _ _ hXW hP hD hS (lv_sub hl [1, 2, 3, 4, 5, 6, 7, 8, 9, 10, 0] rfl) hrun
  · replace hrun := if_f q1 hrun
    refine lv_iconst (v := 0) hx hb dL_law_592 (by decide) ?_
    exact absurd (Option.some.inj hrun) (by decide)
set_option maxHeartbeats 4000000 in
set_option maxRecDepth 100000 in
theorem t_L_law_563 {l : Launch} {G : k_G} {p : Program} {e : Env} {s : State} {m : MethodId} {b : Nat} {below : List Frame} {meth : Method} {c : Code} {A : Nat → Prop} {h_bb h_m h_v h_o : Nat} (C0 : k_C G p s m #[Value.ref b] meth c A code RL lw_tbl 21 (some .boolean) meth.name) (hAs : ∀ q, A q → s.heap.size ≤ q) (k286 : Int32 → (Nat → Int32) → (Nat → Int32) → (Nat → Int32) → k_SB → Option (Int32)) (hk286 : ∀ (w : va_W) (x5 : Int32) (w_bb : Nat → Int32) (w_m : Nat → Int32) (w_v : Nat → Int32) (σ : k_SB) (H : Heap) (locs : List Loc) (ls : Array Slot), XW G h_o σ w → va_P G.1 vwCl ([(h_bb, .inl (k_cI G, 21, .inl w_bb)), (h_m, .inl (k_cI G, 7, .inl w_m)), (h_v, .inl (k_cI G, 4, .inl w_v))] ++ w) H → va_D A ([(h_bb, .inl (k_cI G, 21, .inl w_bb)), (h_m, .inl (k_cI G, 7, .inl w_m)), (h_v, .inl (k_cI G, 4, .inl w_v))] ++ w) → va_S A s.heap H locs → lv_has ls 21 [(0, .ref (k_xB G)), (1, .ref h_o), (3, .ref h_bb), (4, .ref h_v), (5, .int x5)] → k286 x5 w_bb w_m w_v σ = some (1 : Int32) → W p l e room_1 s m #[Value.ref b] below meth c H locs 44 13141 (lw_Z below #[Value.ref b] s) (F0 m 286 ls [])) (k305 : Int32 → Int32 → Int32 → (Nat → Int32) → (Nat → Int32) → (Nat → Int32) → k_SB → Option (Int32)) (hk305 : ∀ (w : va_W) (x5 : Int32) (x6 : Int32) (x7 : Int32) (w_bb : Nat → Int32) (w_m : Nat → Int32) (w_v : Nat → Int32) (σ : k_SB) (H : Heap) (locs : List Loc) (ls : Array Slot), XW G h_o σ w → va_P G.1 vwCl ([(h_bb, .inl (k_cI G, 21, .inl w_bb)), (h_m, .inl (k_cI G, 7, .inl w_m)), (h_v, .inl (k_cI G, 4, .inl w_v))] ++ w) H → va_D A ([(h_bb, .inl (k_cI G, 21, .inl w_bb)), (h_m, .inl (k_cI G, 7, .inl w_m)), (h_v, .inl (k_cI G, 4, .inl w_v))] ++ w) → va_S A s.heap H locs → lv_has ls 21 [(0, .ref (k_xB G)), (1, .ref h_o), (3, .ref h_bb), (4, .ref h_v), (5, .int x5), (6, .int x6), (7, .int x7)] → k305 x5 x6 x7 w_bb w_m w_v σ = some (1 : Int32) → W p l e room_1 s m #[Value.ref b] below meth c H locs 44 13141 (lw_Z below #[Value.ref b] s) (F0 m 305 ls [])) (k516 : Int32 → Int32 → Int32 → Int32 → Int32 → Int32 → Int32 → (Nat → Int32) → (Nat → Int32) → (Nat → Int32) → k_SB → Option (Int32)) (hk516 : ∀ (w : va_W) (x5 : Int32) (x6 : Int32) (x7 : Int32) (x8 : Int32) (x9 : Int32) (x10 : Int32) (x12 : Int32) (w_bb : Nat → Int32) (w_m : Nat → Int32) (w_v : Nat → Int32) (σ : k_SB) (H : Heap) (locs : List Loc) (ls : Array Slot), XW G h_o σ w → va_P G.1 vwCl ([(h_bb, .inl (k_cI G, 21, .inl w_bb)), (h_m, .inl (k_cI G, 7, .inl w_m)), (h_v, .inl (k_cI G, 4, .inl w_v))] ++ w) H → va_D A ([(h_bb, .inl (k_cI G, 21, .inl w_bb)), (h_m, .inl (k_cI G, 7, .inl w_m)), (h_v, .inl (k_cI G, 4, .inl w_v))] ++ w) → va_S A s.heap H locs → lv_has ls 21 [(0, .ref (k_xB G)), (1, .ref h_o), (3, .ref h_bb), (4, .ref h_v), (5, .int x5), (6, .int x6), (7, .int x7), (8, .int x8), (9, .int x9), (10, .int x10), (12, .int x12)] → k516 x5 x6 x7 x8 x9 x10 x12 w_bb w_m w_v σ = some (1 : Int32) → W p l e room_1 s m #[Value.ref b] below meth c H locs 44 13141 (lw_Z below #[Value.ref b] s) (F0 m 516 ls [])) : ∀ (w : va_W) (x5 : Int32) (x6 : Int32) (x7 : Int32) (x8 : Int32) (x9 : Int32) (x10 : Int32) (x12 : Int32) (s0 : Int32) (w_bb : Nat → Int32) (w_m : Nat → Int32) (w_v : Nat → Int32) (σ : k_SB) (H : Heap) (locs : List Loc) (ls : Array Slot), XW G h_o σ w → va_P G.1 vwCl ([(h_bb, .inl (k_cI G, 21, .inl w_bb)), (h_m, .inl (k_cI G, 7, .inl w_m)), (h_v, .inl (k_cI G, 4, .inl w_v))] ++ w) H → va_D A ([(h_bb, .inl (k_cI G, 21, .inl w_bb)), (h_m, .inl (k_cI G, 7, .inl w_m)), (h_v, .inl (k_cI G, 4, .inl w_v))] ++ w) → va_S A s.heap H locs → lv_has ls 21 [(0, .ref (k_xB G)), (1, .ref h_o), (3, .ref h_bb), (4, .ref h_v), (5, .int x5), (6, .int x6), (7, .int x7), (8, .int x8), (9, .int x9), (10, .int x10), (12, .int x12)] → f_L_law_563 (k_xL G) (k_xs G) k286 k305 k516 x5 x6 x7 x8 x9 x10 x12 s0 w_bb w_m w_v σ = some (1 : Int32) → W p l e room_1 s m #[Value.ref b] below meth c H locs 44 13141 (lw_Z below #[Value.ref b] s) (F0 m 563 ls [.int s0]) := by
  have hx := C0.1
  have hb := C0.2.1
  have hts := C0.2.2.2.1
  have hown := C0.2.2.2.2.1
  have hK := C0.2.2.2.2.2.2.2.2.1.1
  have hNW := C0.2.2.2.2.2.2.2.2.1.2.1
  have hSF := C0.2.2.2.2.2.2.2.2.1.2.2
  intro w x5 x6 x7 x8 x9 x10 x12 s0 w_bb w_m w_v σ H locs ls hXW hP hD hS hl hrun
  rw [f_L_law_563] at hrun
  refine lv_aload_n hx hb dL_law_563 rfl (lv_at hl 1 rfl) ?_
  refine lv_iload hx hb dL_law_564 (lv_at hl 6 rfl) ?_
  refine lv_iload hx hb dL_law_566 (lv_at hl 10 rfl) ?_
  obtain ⟨t1, et1, hrun⟩ := bd_inv hrun
  obtain ⟨σ2, eσ2, hrun⟩ := lt_inv hrun
  obtain ⟨fs9, he9⟩ := XW_head hXW
  refine lw_callVi (wr := [(h_bb, .inl (k_cI G, 21, .inl w_bb)), (h_m, .inl (k_cI G, 7, .inl w_m)), (h_v, .inl (k_cI G, 4, .inl w_v))]) (rest := [.int s0]) C0 (lx_layer hXW et1 H.size) (cwV 2 hts gL_law_X11_layer rfl rfl rfl e_X11_layer ⟨Nat.le_of_ble_eq_true rfl, Nat.le_of_ble_eq_true rfl⟩) hP hD hS rfl rfl he9 rfl hl.1 rfl (Nat.le_of_ble_eq_true rfl) dL_law_568 ⟨Nat.le_of_ble_eq_true rfl, Nat.le_of_ble_eq_true rfl⟩ (fun w3 H locs hXW hP hD hS => ?_)
  replace hXW : XW G h_o σ2 w3 := by rw [eσ2]; exact hXW
  clear et1 eσ2 he9
  refine lv_aload_n hx hb dL_law_571 rfl (lv_at hl 1 rfl) ?_
  refine lv_iload hx hb dL_law_572 (lv_at hl 6 rfl) ?_
  refine lv_iload hx hb dL_law_574 (lv_at hl 10 rfl) ?_
  refine lv_iconst (v := 2) hx hb dL_law_576 (by decide) ?_
  refine lv_iadd hx hb dL_law_577 ?_
  obtain ⟨t4, et4, hrun⟩ := bd_inv hrun
  obtain ⟨σ5, eσ5, hrun⟩ := lt_inv hrun
  obtain ⟨fs9, he9⟩ := XW_head hXW
  refine lw_callVi (wr := [(h_bb, .inl (k_cI G, 21, .inl w_bb)), (h_m, .inl (k_cI G, 7, .inl w_m)), (h_v, .inl (k_cI G, 4, .inl w_v))]) (rest := [.int t1.1, .int s0]) C0 (lx_layer hXW et4 H.size) (cwV 2 hts gL_law_X11_layer rfl rfl rfl e_X11_layer ⟨Nat.le_of_ble_eq_true rfl, Nat.le_of_ble_eq_true rfl⟩) hP hD hS rfl rfl he9 rfl hl.1 rfl (Nat.le_of_ble_eq_true rfl) dL_law_578 ⟨Nat.le_of_ble_eq_true rfl, Nat.le_of_ble_eq_true rfl⟩ (fun w6 H locs hXW hP hD hS => ?_)
  replace hXW : XW G h_o σ5 w6 := by rw [eσ5]; exact hXW
  clear et4 eσ5 he9
  refine lv_icmp_ne (tgt := 588) hx hb dL_law_581 (by decide) (fun q7 => ?_) (fun q7 => ?_)
  · replace hrun := if_f q7 hrun
    refine lv_iconst (v := 0) hx hb dL_law_588 (by decide) ?_
    exact t_L_law_589 C0 hAs k286 hk286 k305 hk305 k516 hk516 w6 x5 x6 x7 x8 x9 x10 x12 s0 (0 : Int32) w_bb w_m w_v σ5 _ _ _ hXW hP hD hS hl hrun
  · replace hrun := if_t q7 hrun
    refine lv_iconst (v := 1) hx hb dL_law_584 (by decide) ?_
    refine lv_goto (tgt := 589) hx hb dL_law_585 (by decide) ?_
    exact t_L_law_589 C0 hAs k286 hk286 k305 hk305 k516 hk516 w6 x5 x6 x7 x8 x9 x10 x12 s0 (1 : Int32) w_bb w_m w_v σ5 _ _ _ hXW hP hD hS hl hrun
set_option maxHeartbeats 4000000 in
set_option maxRecDepth 100000 in
theorem t_L_law_1011 {l : Launch} {G : k_G} {p : Program} {e : Env} {s : State} {m : MethodId} {b : Nat} {below : List Frame} {meth : Method} {c : Code} {A : Nat → Prop} {h_bb h_m h_v h_o : Nat} (C0 : k_C G p s m #[Value.ref b] meth c A code RL lw_tbl 21 (some .boolean) meth.name) (hAs : ∀ q, A q → s.heap.size ≤ q) (k286 : Int32 → (Nat → Int32) → (Nat → Int32) → (Nat → Int32) → k_SB → Option (Int32)) (hk286 : ∀ (w : va_W) (x5 : Int32) (w_bb : Nat → Int32) (w_m : Nat → Int32) (w_v : Nat → Int32) (σ : k_SB) (H : Heap) (locs : List Loc) (ls : Array Slot), XW G h_o σ w → va_P G.1 vwCl ([(h_bb, .inl (k_cI G, 21, .inl w_bb)), (h_m, .inl (k_cI G, 7, .inl w_m)), (h_v, .inl (k_cI G, 4, .inl w_v))] ++ w) H → va_D A ([(h_bb, .inl (k_cI G, 21, .inl w_bb)), (h_m, .inl (k_cI G, 7, .inl w_m)), (h_v, .inl (k_cI G, 4, .inl w_v))] ++ w) → va_S A s.heap H locs → lv_has ls 21 [(0, .ref (k_xB G)), (1, .ref h_o), (3, .ref h_bb), (4, .ref h_v), (5, .int x5)] → k286 x5 w_bb w_m w_v σ = some (1 : Int32) → W p l e room_1 s m #[Value.ref b] below meth c H locs 44 13141 (lw_Z below #[Value.ref b] s) (F0 m 286 ls [])) (k305 : Int32 → Int32 → Int32 → (Nat → Int32) → (Nat → Int32) → (Nat → Int32) → k_SB → Option (Int32)) (hk305 : ∀ (w : va_W) (x5 : Int32) (x6 : Int32) (x7 : Int32) (w_bb : Nat → Int32) (w_m : Nat → Int32) (w_v : Nat → Int32) (σ : k_SB) (H : Heap) (locs : List Loc) (ls : Array Slot), XW G h_o σ w → va_P G.1 vwCl ([(h_bb, .inl (k_cI G, 21, .inl w_bb)), (h_m, .inl (k_cI G, 7, .inl w_m)), (h_v, .inl (k_cI G, 4, .inl w_v))] ++ w) H → va_D A ([(h_bb, .inl (k_cI G, 21, .inl w_bb)), (h_m, .inl (k_cI G, 7, .inl w_m)), (h_v, .inl (k_cI G, 4, .inl w_v))] ++ w) → va_S A s.heap H locs → lv_has ls 21 [(0, .ref (k_xB G)), (1, .ref h_o), (3, .ref h_bb), (4, .ref h_v), (5, .int x5), (6, .int x6), (7, .int x7)] → k305 x5 x6 x7 w_bb w_m w_v σ = some (1 : Int32) → W p l e room_1 s m #[Value.ref b] below meth c H locs 44 13141 (lw_Z below #[Value.ref b] s) (F0 m 305 ls [])) (k957 : Int32 → Int32 → Int32 → Int32 → Int32 → Int32 → Int32 → Int32 → (Nat → Int32) → (Nat → Int32) → (Nat → Int32) → k_SB → Option (Int32)) (hk957 : ∀ (w : va_W) (x5 : Int32) (x6 : Int32) (x7 : Int32) (x8 : Int32) (x9 : Int32) (x12 : Int32) (x15 : Int32) (x17 : Int32) (w_bb : Nat → Int32) (w_m : Nat → Int32) (w_v : Nat → Int32) (σ : k_SB) (H : Heap) (locs : List Loc) (ls : Array Slot), XW G h_o σ w → va_P G.1 vwCl ([(h_bb, .inl (k_cI G, 21, .inl w_bb)), (h_m, .inl (k_cI G, 7, .inl w_m)), (h_v, .inl (k_cI G, 4, .inl w_v))] ++ w) H → va_D A ([(h_bb, .inl (k_cI G, 21, .inl w_bb)), (h_m, .inl (k_cI G, 7, .inl w_m)), (h_v, .inl (k_cI G, 4, .inl w_v))] ++ w) → va_S A s.heap H locs → lv_has ls 21 [(0, .ref (k_xB G)), (1, .ref h_o), (3, .ref h_bb), (4, .ref h_v), (5, .int x5), (6, .int x6), (7, .int x7), (8, .int x8), (9, .int x9), (12, .int x12), (15, .int x15), (17, .int x17)] → k957 x5 x6 x7 x8 x9 x12 x15 x17 w_bb w_m w_v σ = some (1 : Int32) → W p l e room_1 s m #[Value.ref b] below meth c H locs 44 13141 (lw_Z below #[Value.ref b] s) (F0 m 957 ls [])) : ∀ (w : va_W) (x5 : Int32) (x6 : Int32) (x7 : Int32) (x8 : Int32) (x9 : Int32) (x12 : Int32) (x15 : Int32) (x17 : Int32) (w_bb : Nat → Int32) (w_m : Nat → Int32) (w_v : Nat → Int32) (σ : k_SB) (H : Heap) (locs : List Loc) (ls : Array Slot), XW G h_o σ w → va_P G.1 vwCl ([(h_bb, .inl (k_cI G, 21, .inl w_bb)), (h_m, .inl (k_cI G, 7, .inl w_m)), (h_v, .inl (k_cI G, 4, .inl w_v))] ++ w) H → va_D A ([(h_bb, .inl (k_cI G, 21, .inl w_bb)), (h_m, .inl (k_cI G, 7, .inl w_m)), (h_v, .inl (k_cI G, 4, .inl w_v))] ++ w) → va_S A s.heap H locs → lv_has ls 21 [(0, .ref (k_xB G)), (1, .ref h_o), (3, .ref h_bb), (4, .ref h_v), (5, .int x5), (6, .int x6), (7, .int x7), (8, .int x8), (9, .int x9), (12, .int x12), (15, .int x15), (17, .int x17)] → f_L_law_1011 (k_xL G) (k_xs G) k286 k305 k957 x5 x6 x7 x8 x9 x12 x15 x17 w_bb w_m w_v σ = some (1 : Int32) → W p l e room_1 s m #[Value.ref b] below meth c H locs 44 13141 (lw_Z below #[Value.ref b] s) (F0 m 1011 ls []) := by
  have hx := C0.1
  have hb := C0.2.1
  have hts := C0.2.2.2.1
  have hown := C0.2.2.2.2.1
  have hK := C0.2.2.2.2.2.2.2.2.1.1
  have hNW := C0.2.2.2.2.2.2.2.2.1.2.1
  have hSF := C0.2.2.2.2.2.2.2.2.1.2.2
  intro w x5 x6 x7 x8 x9 x12 x15 x17 w_bb w_m w_v σ H locs ls hXW hP hD hS hl hrun
  rw [f_L_law_1011] at hrun
  refine lv_iinc (v := x17 + 1) (lv' := [(17, .int (x17 + 1)), (0, .ref (k_xB G)), (1, .ref h_o), (3, .ref h_bb), (4, .ref h_v), (5, .int x5), (6, .int x6), (7, .int x7), (8, .int x8), (9, .int x9), (12, .int x12), (15, .int x15)]) hx hb dL_law_1011 hl (k := 11) rfl rfl (by decide) rfl (fun ls hl => ?_)
  refine lv_goto (tgt := 957) hx hb dL_law_1014 (by decide) ?_
  exact hk957 w x5 x6 x7 x8 x9 x12 x15 (x17 + 1) w_bb w_m w_v σ _ _ _ hXW hP hD hS (lv_sub hl [1, 2, 3, 4, 5, 6, 7, 8, 9, 10, 11, 0] rfl) hrun
set_option maxHeartbeats 4000000 in
set_option maxRecDepth 100000 in
theorem t_L_law_1374 {l : Launch} {G : k_G} {p : Program} {e : Env} {s : State} {m : MethodId} {b : Nat} {below : List Frame} {meth : Method} {c : Code} {A : Nat → Prop} {h_bb h_m h_v h_o : Nat} (C0 : k_C G p s m #[Value.ref b] meth c A code RL lw_tbl 21 (some .boolean) meth.name) (hAs : ∀ q, A q → s.heap.size ≤ q) (k286 : Int32 → (Nat → Int32) → (Nat → Int32) → (Nat → Int32) → k_SB → Option (Int32)) (hk286 : ∀ (w : va_W) (x5 : Int32) (w_bb : Nat → Int32) (w_m : Nat → Int32) (w_v : Nat → Int32) (σ : k_SB) (H : Heap) (locs : List Loc) (ls : Array Slot), XW G h_o σ w → va_P G.1 vwCl ([(h_bb, .inl (k_cI G, 21, .inl w_bb)), (h_m, .inl (k_cI G, 7, .inl w_m)), (h_v, .inl (k_cI G, 4, .inl w_v))] ++ w) H → va_D A ([(h_bb, .inl (k_cI G, 21, .inl w_bb)), (h_m, .inl (k_cI G, 7, .inl w_m)), (h_v, .inl (k_cI G, 4, .inl w_v))] ++ w) → va_S A s.heap H locs → lv_has ls 21 [(0, .ref (k_xB G)), (1, .ref h_o), (3, .ref h_bb), (4, .ref h_v), (5, .int x5)] → k286 x5 w_bb w_m w_v σ = some (1 : Int32) → W p l e room_1 s m #[Value.ref b] below meth c H locs 44 13141 (lw_Z below #[Value.ref b] s) (F0 m 286 ls [])) (k305 : Int32 → Int32 → Int32 → (Nat → Int32) → (Nat → Int32) → (Nat → Int32) → k_SB → Option (Int32)) (hk305 : ∀ (w : va_W) (x5 : Int32) (x6 : Int32) (x7 : Int32) (w_bb : Nat → Int32) (w_m : Nat → Int32) (w_v : Nat → Int32) (σ : k_SB) (H : Heap) (locs : List Loc) (ls : Array Slot), XW G h_o σ w → va_P G.1 vwCl ([(h_bb, .inl (k_cI G, 21, .inl w_bb)), (h_m, .inl (k_cI G, 7, .inl w_m)), (h_v, .inl (k_cI G, 4, .inl w_v))] ++ w) H → va_D A ([(h_bb, .inl (k_cI G, 21, .inl w_bb)), (h_m, .inl (k_cI G, 7, .inl w_m)), (h_v, .inl (k_cI G, 4, .inl w_v))] ++ w) → va_S A s.heap H locs → lv_has ls 21 [(0, .ref (k_xB G)), (1, .ref h_o), (3, .ref h_bb), (4, .ref h_v), (5, .int x5), (6, .int x6), (7, .int x7)] → k305 x5 x6 x7 w_bb w_m w_v σ = some (1 : Int32) → W p l e room_1 s m #[Value.ref b] below meth c H locs 44 13141 (lw_Z below #[Value.ref b] s) (F0 m 305 ls [])) (k1111 : Int32 → Int32 → Int32 → Int32 → Int32 → Int32 → Int32 → (Nat → Int32) → (Nat → Int32) → (Nat → Int32) → k_SB → Option (Int32)) (hk1111 : ∀ (w : va_W) (x5 : Int32) (x6 : Int32) (x7 : Int32) (x8 : Int32) (x9 : Int32) (x12 : Int32) (x17 : Int32) (w_bb : Nat → Int32) (w_m : Nat → Int32) (w_v : Nat → Int32) (σ : k_SB) (H : Heap) (locs : List Loc) (ls : Array Slot), XW G h_o σ w → va_P G.1 vwCl ([(h_bb, .inl (k_cI G, 21, .inl w_bb)), (h_m, .inl (k_cI G, 7, .inl w_m)), (h_v, .inl (k_cI G, 4, .inl w_v))] ++ w) H → va_D A ([(h_bb, .inl (k_cI G, 21, .inl w_bb)), (h_m, .inl (k_cI G, 7, .inl w_m)), (h_v, .inl (k_cI G, 4, .inl w_v))] ++ w) → va_S A s.heap H locs → lv_has ls 21 [(0, .ref (k_xB G)), (1, .ref h_o), (3, .ref h_bb), (4, .ref h_v), (5, .int x5), (6, .int x6), (7, .int x7), (8, .int x8), (9, .int x9), (12, .int x12), (17, .int x17)] → k1111 x5 x6 x7 x8 x9 x12 x17 w_bb w_m w_v σ = some (1 : Int32) → W p l e room_1 s m #[Value.ref b] below meth c H locs 44 13141 (lw_Z below #[Value.ref b] s) (F0 m 1111 ls [])) (k1215 : Int32 → Int32 → Int32 → Int32 → Int32 → Int32 → Int32 → Int32 → Int32 → (Nat → Int32) → (Nat → Int32) → (Nat → Int32) → k_SB → Option (Int32)) (hk1215 : ∀ (w : va_W) (x5 : Int32) (x6 : Int32) (x7 : Int32) (x8 : Int32) (x9 : Int32) (x12 : Int32) (x17 : Int32) (x18 : Int32) (x19 : Int32) (w_bb : Nat → Int32) (w_m : Nat → Int32) (w_v : Nat → Int32) (σ : k_SB) (H : Heap) (locs : List Loc) (ls : Array Slot), XW G h_o σ w → va_P G.1 vwCl ([(h_bb, .inl (k_cI G, 21, .inl w_bb)), (h_m, .inl (k_cI G, 7, .inl w_m)), (h_v, .inl (k_cI G, 4, .inl w_v))] ++ w) H → va_D A ([(h_bb, .inl (k_cI G, 21, .inl w_bb)), (h_m, .inl (k_cI G, 7, .inl w_m)), (h_v, .inl (k_cI G, 4, .inl w_v))] ++ w) → va_S A s.heap H locs → lv_has ls 21 [(0, .ref (k_xB G)), (1, .ref h_o), (3, .ref h_bb), (4, .ref h_v), (5, .int x5), (6, .int x6), (7, .int x7), (8, .int x8), (9, .int x9), (12, .int x12), (17, .int x17), (18, .int x18), (19, .int x19)] → k1215 x5 x6 x7 x8 x9 x12 x17 x18 x19 w_bb w_m w_v σ = some (1 : Int32) → W p l e room_1 s m #[Value.ref b] below meth c H locs 44 13141 (lw_Z below #[Value.ref b] s) (F0 m 1215 ls [])) : ∀ (w : va_W) (x5 : Int32) (x6 : Int32) (x7 : Int32) (x8 : Int32) (x9 : Int32) (x12 : Int32) (x17 : Int32) (x18 : Int32) (x19 : Int32) (w_bb : Nat → Int32) (w_m : Nat → Int32) (w_v : Nat → Int32) (σ : k_SB) (H : Heap) (locs : List Loc) (ls : Array Slot), XW G h_o σ w → va_P G.1 vwCl ([(h_bb, .inl (k_cI G, 21, .inl w_bb)), (h_m, .inl (k_cI G, 7, .inl w_m)), (h_v, .inl (k_cI G, 4, .inl w_v))] ++ w) H → va_D A ([(h_bb, .inl (k_cI G, 21, .inl w_bb)), (h_m, .inl (k_cI G, 7, .inl w_m)), (h_v, .inl (k_cI G, 4, .inl w_v))] ++ w) → va_S A s.heap H locs → lv_has ls 21 [(0, .ref (k_xB G)), (1, .ref h_o), (3, .ref h_bb), (4, .ref h_v), (5, .int x5), (6, .int x6), (7, .int x7), (8, .int x8), (9, .int x9), (12, .int x12), (17, .int x17), (18, .int x18), (19, .int x19)] → f_L_law_1374 (k_xL G) (k_xs G) k286 k305 k1111 k1215 x5 x6 x7 x8 x9 x12 x17 x18 x19 w_bb w_m w_v σ = some (1 : Int32) → W p l e room_1 s m #[Value.ref b] below meth c H locs 44 13141 (lw_Z below #[Value.ref b] s) (F0 m 1374 ls []) := by
  have hx := C0.1
  have hb := C0.2.1
  have hts := C0.2.2.2.1
  have hown := C0.2.2.2.2.1
  have hK := C0.2.2.2.2.2.2.2.2.1.1
  have hNW := C0.2.2.2.2.2.2.2.2.1.2.1
  have hSF := C0.2.2.2.2.2.2.2.2.1.2.2
  intro w x5 x6 x7 x8 x9 x12 x17 x18 x19 w_bb w_m w_v σ H locs ls hXW hP hD hS hl hrun
  rw [f_L_law_1374] at hrun
  refine lv_iinc (v := x19 + 1) (lv' := [(19, .int (x19 + 1)), (0, .ref (k_xB G)), (1, .ref h_o), (3, .ref h_bb), (4, .ref h_v), (5, .int x5), (6, .int x6), (7, .int x7), (8, .int x8), (9, .int x9), (12, .int x12), (17, .int x17), (18, .int x18)]) hx hb dL_law_1374 hl (k := 12) rfl rfl (by decide) rfl (fun ls hl => ?_)
  refine lv_goto (tgt := 1215) hx hb dL_law_1377 (by decide) ?_
  exact hk1215 w x5 x6 x7 x8 x9 x12 x17 x18 (x19 + 1) w_bb w_m w_v σ _ _ _ hXW hP hD hS (lv_sub hl [1, 2, 3, 4, 5, 6, 7, 8, 9, 10, 11, 12, 0] rfl) hrun
set_option maxHeartbeats 4000000 in
set_option maxRecDepth 100000 in
theorem t_L_law_1309 {l : Launch} {G : k_G} {p : Program} {e : Env} {s : State} {m : MethodId} {b : Nat} {below : List Frame} {meth : Method} {c : Code} {A : Nat → Prop} {h_bb h_m h_v h_o : Nat} (C0 : k_C G p s m #[Value.ref b] meth c A code RL lw_tbl 21 (some .boolean) meth.name) (hAs : ∀ q, A q → s.heap.size ≤ q) (k286 : Int32 → (Nat → Int32) → (Nat → Int32) → (Nat → Int32) → k_SB → Option (Int32)) (hk286 : ∀ (w : va_W) (x5 : Int32) (w_bb : Nat → Int32) (w_m : Nat → Int32) (w_v : Nat → Int32) (σ : k_SB) (H : Heap) (locs : List Loc) (ls : Array Slot), XW G h_o σ w → va_P G.1 vwCl ([(h_bb, .inl (k_cI G, 21, .inl w_bb)), (h_m, .inl (k_cI G, 7, .inl w_m)), (h_v, .inl (k_cI G, 4, .inl w_v))] ++ w) H → va_D A ([(h_bb, .inl (k_cI G, 21, .inl w_bb)), (h_m, .inl (k_cI G, 7, .inl w_m)), (h_v, .inl (k_cI G, 4, .inl w_v))] ++ w) → va_S A s.heap H locs → lv_has ls 21 [(0, .ref (k_xB G)), (1, .ref h_o), (3, .ref h_bb), (4, .ref h_v), (5, .int x5)] → k286 x5 w_bb w_m w_v σ = some (1 : Int32) → W p l e room_1 s m #[Value.ref b] below meth c H locs 44 13141 (lw_Z below #[Value.ref b] s) (F0 m 286 ls [])) (k305 : Int32 → Int32 → Int32 → (Nat → Int32) → (Nat → Int32) → (Nat → Int32) → k_SB → Option (Int32)) (hk305 : ∀ (w : va_W) (x5 : Int32) (x6 : Int32) (x7 : Int32) (w_bb : Nat → Int32) (w_m : Nat → Int32) (w_v : Nat → Int32) (σ : k_SB) (H : Heap) (locs : List Loc) (ls : Array Slot), XW G h_o σ w → va_P G.1 vwCl ([(h_bb, .inl (k_cI G, 21, .inl w_bb)), (h_m, .inl (k_cI G, 7, .inl w_m)), (h_v, .inl (k_cI G, 4, .inl w_v))] ++ w) H → va_D A ([(h_bb, .inl (k_cI G, 21, .inl w_bb)), (h_m, .inl (k_cI G, 7, .inl w_m)), (h_v, .inl (k_cI G, 4, .inl w_v))] ++ w) → va_S A s.heap H locs → lv_has ls 21 [(0, .ref (k_xB G)), (1, .ref h_o), (3, .ref h_bb), (4, .ref h_v), (5, .int x5), (6, .int x6), (7, .int x7)] → k305 x5 x6 x7 w_bb w_m w_v σ = some (1 : Int32) → W p l e room_1 s m #[Value.ref b] below meth c H locs 44 13141 (lw_Z below #[Value.ref b] s) (F0 m 305 ls [])) (k1111 : Int32 → Int32 → Int32 → Int32 → Int32 → Int32 → Int32 → (Nat → Int32) → (Nat → Int32) → (Nat → Int32) → k_SB → Option (Int32)) (hk1111 : ∀ (w : va_W) (x5 : Int32) (x6 : Int32) (x7 : Int32) (x8 : Int32) (x9 : Int32) (x12 : Int32) (x17 : Int32) (w_bb : Nat → Int32) (w_m : Nat → Int32) (w_v : Nat → Int32) (σ : k_SB) (H : Heap) (locs : List Loc) (ls : Array Slot), XW G h_o σ w → va_P G.1 vwCl ([(h_bb, .inl (k_cI G, 21, .inl w_bb)), (h_m, .inl (k_cI G, 7, .inl w_m)), (h_v, .inl (k_cI G, 4, .inl w_v))] ++ w) H → va_D A ([(h_bb, .inl (k_cI G, 21, .inl w_bb)), (h_m, .inl (k_cI G, 7, .inl w_m)), (h_v, .inl (k_cI G, 4, .inl w_v))] ++ w) → va_S A s.heap H locs → lv_has ls 21 [(0, .ref (k_xB G)), (1, .ref h_o), (3, .ref h_bb), (4, .ref h_v), (5, .int x5), (6, .int x6), (7, .int x7), (8, .int x8), (9, .int x9), (12, .int x12), (17, .int x17)] → k1111 x5 x6 x7 x8 x9 x12 x17 w_bb w_m w_v σ = some (1 : Int32) → W p l e room_1 s m #[Value.ref b] below meth c H locs 44 13141 (lw_Z below #[Value.ref b] s) (F0 m 1111 ls [])) (k1215 : Int32 → Int32 → Int32 → Int32 → Int32 → Int32 → Int32 → Int32 → Int32 → (Nat → Int32) → (Nat → Int32) → (Nat → Int32) → k_SB → Option (Int32)) (hk1215 : ∀ (w : va_W) (x5 : Int32) (x6 : Int32) (x7 : Int32) (x8 : Int32) (x9 : Int32) (x12 : Int32) (x17 : Int32) (x18 : Int32) (x19 : Int32) (w_bb : Nat → Int32) (w_m : Nat → Int32) (w_v : Nat → Int32) (σ : k_SB) (H : Heap) (locs : List Loc) (ls : Array Slot), XW G h_o σ w → va_P G.1 vwCl ([(h_bb, .inl (k_cI G, 21, .inl w_bb)), (h_m, .inl (k_cI G, 7, .inl w_m)), (h_v, .inl (k_cI G, 4, .inl w_v))] ++ w) H → va_D A ([(h_bb, .inl (k_cI G, 21, .inl w_bb)), (h_m, .inl (k_cI G, 7, .inl w_m)), (h_v, .inl (k_cI G, 4, .inl w_v))] ++ w) → va_S A s.heap H locs → lv_has ls 21 [(0, .ref (k_xB G)), (1, .ref h_o), (3, .ref h_bb), (4, .ref h_v), (5, .int x5), (6, .int x6), (7, .int x7), (8, .int x8), (9, .int x9), (12, .int x12), (17, .int x17), (18, .int x18), (19, .int x19)] → k1215 x5 x6 x7 x8 x9 x12 x17 x18 x19 w_bb w_m w_v σ = some (1 : Int32) → W p l e room_1 s m #[Value.ref b] below meth c H locs 44 13141 (lw_Z below #[Value.ref b] s) (F0 m 1215 ls [])) : ∀ (w : va_W) (x5 : Int32) (x6 : Int32) (x7 : Int32) (x8 : Int32) (x9 : Int32) (x12 : Int32) (x17 : Int32) (x18 : Int32) (x19 : Int32) (x20 : Int32) (s0 : Int32) (s1 : Int32) (w_bb : Nat → Int32) (w_m : Nat → Int32) (w_v : Nat → Int32) (σ : k_SB) (H : Heap) (locs : List Loc) (ls : Array Slot), XW G h_o σ w → va_P G.1 vwCl ([(h_bb, .inl (k_cI G, 21, .inl w_bb)), (h_m, .inl (k_cI G, 7, .inl w_m)), (h_v, .inl (k_cI G, 4, .inl w_v))] ++ w) H → va_D A ([(h_bb, .inl (k_cI G, 21, .inl w_bb)), (h_m, .inl (k_cI G, 7, .inl w_m)), (h_v, .inl (k_cI G, 4, .inl w_v))] ++ w) → va_S A s.heap H locs → lv_has ls 21 [(0, .ref (k_xB G)), (1, .ref h_o), (3, .ref h_bb), (4, .ref h_v), (5, .int x5), (6, .int x6), (7, .int x7), (8, .int x8), (9, .int x9), (12, .int x12), (17, .int x17), (18, .int x18), (19, .int x19), (20, .int x20)] → f_L_law_1309 (k_xL G) (k_xs G) k286 k305 k1111 k1215 x5 x6 x7 x8 x9 x12 x17 x18 x19 x20 s0 s1 w_bb w_m w_v σ = some (1 : Int32) → W p l e room_1 s m #[Value.ref b] below meth c H locs 44 13141 (lw_Z below #[Value.ref b] s) (F0 m 1309 ls [.int s1, .int s0]) := by
  have hx := C0.1
  have hb := C0.2.1
  have hts := C0.2.2.2.1
  have hown := C0.2.2.2.2.1
  have hK := C0.2.2.2.2.2.2.2.2.1.1
  have hNW := C0.2.2.2.2.2.2.2.2.1.2.1
  have hSF := C0.2.2.2.2.2.2.2.2.1.2.2
  intro w x5 x6 x7 x8 x9 x12 x17 x18 x19 x20 s0 s1 w_bb w_m w_v σ H locs ls hXW hP hD hS hl hrun
  rw [f_L_law_1309] at hrun
  refine lv_icmp_ne (tgt := 1319) hx hb dL_law_1309 (by decide) (fun q1 => ?_) (fun q1 => ?_)
  · replace hrun := if_f q1 hrun
    refine lv_iconst (v := 0) hx hb dL_law_1319 (by decide) ?_
    exact absurd (Option.some.inj hrun) (by decide)
  · replace hrun := if_t q1 hrun
    refine lv_iload hx hb dL_law_1312 (lv_at hl 13 rfl) ?_
    refine lv_iload hx hb dL_law_1314 (lv_at hl 7 rfl) ?_
    refine lv_icmp_le (tgt := 1321) hx hb dL_law_1316 (by decide) (fun q2 => ?_) (fun q2 => ?_)
    · replace hrun := if_t q2 hrun
      refine lv_aload_n hx hb dL_law_1321 rfl (lv_at hl 1 rfl) ?_
      refine lv_iload hx hb dL_law_1322 (lv_at hl 6 rfl) ?_
      refine lv_iload hx hb dL_law_1324 (lv_at hl 12 rfl) ?_
      refine lv_iload hx hb dL_law_1326 (lv_at hl 10 rfl) ?_
      obtain ⟨t3, et3, hrun⟩ := bd_inv hrun
      obtain ⟨σ4, eσ4, hrun⟩ := lt_inv hrun
      obtain ⟨fs9, he9⟩ := XW_head hXW
      refine lw_callVi (wr := [(h_bb, .inl (k_cI G, 21, .inl w_bb)), (h_m, .inl (k_cI G, 7, .inl w_m)), (h_v, .inl (k_cI G, 4, .inl w_v))]) (rest := []) C0 (lx_alike hXW et3 H.size) (cwV 3 hts gL_law_X11_alike rfl rfl rfl e_X11_alike ⟨Nat.le_of_ble_eq_true rfl, Nat.le_of_ble_eq_true rfl⟩) hP hD hS rfl rfl he9 rfl hl.1 rfl (Nat.le_of_ble_eq_true rfl) dL_law_1328 ⟨Nat.le_of_ble_eq_true rfl, Nat.le_of_ble_eq_true rfl⟩ (fun w5 H locs hXW hP hD hS => ?_)
      replace hXW : XW G h_o σ4 w5 := by rw [eσ4]; exact hXW
      clear et3 eσ4 he9
      refine lv_iconst (v := 1) hx hb dL_law_1331 (by decide) ?_
      refine lv_icmp_ne (tgt := 1374) hx hb dL_law_1332 (by decide) (fun q6 => ?_) (fun q6 => ?_)
      · replace hrun := if_f q6 hrun
        exact t_L_law_1374 C0 hAs k286 hk286 k305 hk305 k1111 hk1111 k1215 hk1215 w5 x5 x6 x7 x8 x9 x12 x17 x18 x19 w_bb w_m w_v σ4 _ _ _ hXW hP hD hS (lv_sub hl [0, 1, 2, 3, 4, 5, 6, 7, 8, 9, 10, 11, 12] rfl) hrun
      · replace hrun := if_t q6 hrun
        refine lv_aload_n hx hb dL_law_1335 rfl (lv_at hl 1 rfl) ?_
        refine lv_iload hx hb dL_law_1336 (lv_at hl 12 rfl) ?_
        refine lv_iload hx hb dL_law_1338 (lv_at hl 10 rfl) ?_
        obtain ⟨t7, et7, hrun⟩ := bd_inv hrun
        obtain ⟨σ8, eσ8, hrun⟩ := lt_inv hrun
        obtain ⟨fs9, he9⟩ := XW_head hXW
        refine lw_callVi (wr := [(h_bb, .inl (k_cI G, 21, .inl w_bb)), (h_m, .inl (k_cI G, 7, .inl w_m)), (h_v, .inl (k_cI G, 4, .inl w_v))]) (rest := []) C0 (lx_least hXW et7 H.size) (cwV 2 hts gL_law_X11_least rfl rfl rfl e_X11_least ⟨Nat.le_of_ble_eq_true rfl, Nat.le_of_ble_eq_true rfl⟩) hP hD hS rfl rfl he9 rfl hl.1 rfl (Nat.le_of_ble_eq_true rfl) dL_law_1340 ⟨Nat.le_of_ble_eq_true rfl, Nat.le_of_ble_eq_true rfl⟩ (fun w9 H locs hXW hP hD hS => ?_)
        replace hXW : XW G h_o σ8 w9 := by rw [eσ8]; exact hXW
        clear et7 eσ8 he9
        refine lv_iload hx hb dL_law_1343 (lv_at hl 11 rfl) ?_
        refine lv_icmp_ne (tgt := 1372) hx hb dL_law_1345 (by decide) (fun q10 => ?_) (fun q10 => ?_)
        · replace hrun := if_f q10 hrun
          refine lv_iconst (v := 0) hx hb dL_law_1372 (by decide) ?_
          exact absurd (Option.some.inj hrun) (by decide)
        · replace hrun := if_t q10 hrun
          refine lv_aload_n hx hb dL_law_1348 rfl (lv_at hl 1 rfl) ?_
          refine lv_iload hx hb dL_law_1349 (lv_at hl 12 rfl) ?_
          obtain ⟨t11, et11, hrun⟩ := bd_inv hrun
          obtain ⟨σ12, eσ12, hrun⟩ := lt_inv hrun
          obtain ⟨fs9, he9⟩ := XW_head hXW
          refine lw_callVi (wr := [(h_bb, .inl (k_cI G, 21, .inl w_bb)), (h_m, .inl (k_cI G, 7, .inl w_m)), (h_v, .inl (k_cI G, 4, .inl w_v))]) (rest := []) C0 (lx_energy hXW et11 H.size) (cwV 1 hts gL_law_X11_energy rfl rfl rfl e_X11_energy ⟨Nat.le_of_ble_eq_true rfl, Nat.le_of_ble_eq_true rfl⟩) hP hD hS rfl rfl he9 rfl hl.1 rfl (Nat.le_of_ble_eq_true rfl) dL_law_1351 ⟨Nat.le_of_ble_eq_true rfl, Nat.le_of_ble_eq_true rfl⟩ (fun w13 H locs hXW hP hD hS => ?_)
          replace hXW : XW G h_o σ12 w13 := by rw [eσ12]; exact hXW
          clear et11 eσ12 he9
          refine lv_iload hx hb dL_law_1354 (lv_at hl 9 rfl) ?_
          refine lv_icmp_ne (tgt := 1372) hx hb dL_law_1356 (by decide) (fun q14 => ?_) (fun q14 => ?_)
          · replace hrun := if_f q14 hrun
            refine lv_iconst (v := 0) hx hb dL_law_1372 (by decide) ?_
            exact absurd (Option.some.inj hrun) (by decide)
          · replace hrun := if_t q14 hrun
            refine lv_aload_n hx hb dL_law_1359 rfl (lv_at hl 1 rfl) ?_
            refine lv_iload hx hb dL_law_1360 (lv_at hl 6 rfl) ?_
            refine lv_iload hx hb dL_law_1362 (lv_at hl 12 rfl) ?_
            obtain ⟨t15, et15, hrun⟩ := bd_inv hrun
            obtain ⟨σ16, eσ16, hrun⟩ := lt_inv hrun
            obtain ⟨fs9, he9⟩ := XW_head hXW
            refine lw_callVi (wr := [(h_bb, .inl (k_cI G, 21, .inl w_bb)), (h_m, .inl (k_cI G, 7, .inl w_m)), (h_v, .inl (k_cI G, 4, .inl w_v))]) (rest := []) C0 (lx_differs hXW et15 H.size) (cwV 2 hts gL_law_X11_differs rfl rfl rfl e_X11_differs ⟨Nat.le_of_ble_eq_true rfl, Nat.le_of_ble_eq_true rfl⟩) hP hD hS rfl rfl he9 rfl hl.1 rfl (Nat.le_of_ble_eq_true rfl) dL_law_1364 ⟨Nat.le_of_ble_eq_true rfl, Nat.le_of_ble_eq_true rfl⟩ (fun w17 H locs hXW hP hD hS => ?_)
            replace hXW : XW G h_o σ16 w17 := by rw [eσ16]; exact hXW
            clear et15 eσ16 he9
            refine lv_bipush (v := -2) hx hb dL_law_1367 (by decide) ?_
            refine lv_icmp_eq (tgt := 1374) hx hb dL_law_1369 (by decide) (fun q18 => ?_) (fun q18 => ?_)
            · replace hrun := if_t q18 hrun
              exact t_L_law_1374 C0 hAs k286 hk286 k305 hk305 k1111 hk1111 k1215 hk1215 w17 x5 x6 x7 x8 x9 x12 x17 x18 x19 w_bb w_m w_v σ16 _ _ _ hXW hP hD hS (lv_sub hl [0, 1, 2, 3, 4, 5, 6, 7, 8, 9, 10, 11, 12] rfl) hrun
            · replace hrun := if_f q18 hrun
              refine lv_iconst (v := 0) hx hb dL_law_1372 (by decide) ?_
              exact absurd (Option.some.inj hrun) (by decide)
    · replace hrun := if_f q2 hrun
      refine lv_iconst (v := 0) hx hb dL_law_1319 (by decide) ?_
      exact absurd (Option.some.inj hrun) (by decide)
set_option maxHeartbeats 4000000 in
set_option maxRecDepth 100000 in
theorem t_L_law_1292 {l : Launch} {G : k_G} {p : Program} {e : Env} {s : State} {m : MethodId} {b : Nat} {below : List Frame} {meth : Method} {c : Code} {A : Nat → Prop} {h_bb h_m h_v h_o : Nat} (C0 : k_C G p s m #[Value.ref b] meth c A code RL lw_tbl 21 (some .boolean) meth.name) (hAs : ∀ q, A q → s.heap.size ≤ q) (k286 : Int32 → (Nat → Int32) → (Nat → Int32) → (Nat → Int32) → k_SB → Option (Int32)) (hk286 : ∀ (w : va_W) (x5 : Int32) (w_bb : Nat → Int32) (w_m : Nat → Int32) (w_v : Nat → Int32) (σ : k_SB) (H : Heap) (locs : List Loc) (ls : Array Slot), XW G h_o σ w → va_P G.1 vwCl ([(h_bb, .inl (k_cI G, 21, .inl w_bb)), (h_m, .inl (k_cI G, 7, .inl w_m)), (h_v, .inl (k_cI G, 4, .inl w_v))] ++ w) H → va_D A ([(h_bb, .inl (k_cI G, 21, .inl w_bb)), (h_m, .inl (k_cI G, 7, .inl w_m)), (h_v, .inl (k_cI G, 4, .inl w_v))] ++ w) → va_S A s.heap H locs → lv_has ls 21 [(0, .ref (k_xB G)), (1, .ref h_o), (3, .ref h_bb), (4, .ref h_v), (5, .int x5)] → k286 x5 w_bb w_m w_v σ = some (1 : Int32) → W p l e room_1 s m #[Value.ref b] below meth c H locs 44 13141 (lw_Z below #[Value.ref b] s) (F0 m 286 ls [])) (k305 : Int32 → Int32 → Int32 → (Nat → Int32) → (Nat → Int32) → (Nat → Int32) → k_SB → Option (Int32)) (hk305 : ∀ (w : va_W) (x5 : Int32) (x6 : Int32) (x7 : Int32) (w_bb : Nat → Int32) (w_m : Nat → Int32) (w_v : Nat → Int32) (σ : k_SB) (H : Heap) (locs : List Loc) (ls : Array Slot), XW G h_o σ w → va_P G.1 vwCl ([(h_bb, .inl (k_cI G, 21, .inl w_bb)), (h_m, .inl (k_cI G, 7, .inl w_m)), (h_v, .inl (k_cI G, 4, .inl w_v))] ++ w) H → va_D A ([(h_bb, .inl (k_cI G, 21, .inl w_bb)), (h_m, .inl (k_cI G, 7, .inl w_m)), (h_v, .inl (k_cI G, 4, .inl w_v))] ++ w) → va_S A s.heap H locs → lv_has ls 21 [(0, .ref (k_xB G)), (1, .ref h_o), (3, .ref h_bb), (4, .ref h_v), (5, .int x5), (6, .int x6), (7, .int x7)] → k305 x5 x6 x7 w_bb w_m w_v σ = some (1 : Int32) → W p l e room_1 s m #[Value.ref b] below meth c H locs 44 13141 (lw_Z below #[Value.ref b] s) (F0 m 305 ls [])) (k1111 : Int32 → Int32 → Int32 → Int32 → Int32 → Int32 → Int32 → (Nat → Int32) → (Nat → Int32) → (Nat → Int32) → k_SB → Option (Int32)) (hk1111 : ∀ (w : va_W) (x5 : Int32) (x6 : Int32) (x7 : Int32) (x8 : Int32) (x9 : Int32) (x12 : Int32) (x17 : Int32) (w_bb : Nat → Int32) (w_m : Nat → Int32) (w_v : Nat → Int32) (σ : k_SB) (H : Heap) (locs : List Loc) (ls : Array Slot), XW G h_o σ w → va_P G.1 vwCl ([(h_bb, .inl (k_cI G, 21, .inl w_bb)), (h_m, .inl (k_cI G, 7, .inl w_m)), (h_v, .inl (k_cI G, 4, .inl w_v))] ++ w) H → va_D A ([(h_bb, .inl (k_cI G, 21, .inl w_bb)), (h_m, .inl (k_cI G, 7, .inl w_m)), (h_v, .inl (k_cI G, 4, .inl w_v))] ++ w) → va_S A s.heap H locs → lv_has ls 21 [(0, .ref (k_xB G)), (1, .ref h_o), (3, .ref h_bb), (4, .ref h_v), (5, .int x5), (6, .int x6), (7, .int x7), (8, .int x8), (9, .int x9), (12, .int x12), (17, .int x17)] → k1111 x5 x6 x7 x8 x9 x12 x17 w_bb w_m w_v σ = some (1 : Int32) → W p l e room_1 s m #[Value.ref b] below meth c H locs 44 13141 (lw_Z below #[Value.ref b] s) (F0 m 1111 ls [])) (k1215 : Int32 → Int32 → Int32 → Int32 → Int32 → Int32 → Int32 → Int32 → Int32 → (Nat → Int32) → (Nat → Int32) → (Nat → Int32) → k_SB → Option (Int32)) (hk1215 : ∀ (w : va_W) (x5 : Int32) (x6 : Int32) (x7 : Int32) (x8 : Int32) (x9 : Int32) (x12 : Int32) (x17 : Int32) (x18 : Int32) (x19 : Int32) (w_bb : Nat → Int32) (w_m : Nat → Int32) (w_v : Nat → Int32) (σ : k_SB) (H : Heap) (locs : List Loc) (ls : Array Slot), XW G h_o σ w → va_P G.1 vwCl ([(h_bb, .inl (k_cI G, 21, .inl w_bb)), (h_m, .inl (k_cI G, 7, .inl w_m)), (h_v, .inl (k_cI G, 4, .inl w_v))] ++ w) H → va_D A ([(h_bb, .inl (k_cI G, 21, .inl w_bb)), (h_m, .inl (k_cI G, 7, .inl w_m)), (h_v, .inl (k_cI G, 4, .inl w_v))] ++ w) → va_S A s.heap H locs → lv_has ls 21 [(0, .ref (k_xB G)), (1, .ref h_o), (3, .ref h_bb), (4, .ref h_v), (5, .int x5), (6, .int x6), (7, .int x7), (8, .int x8), (9, .int x9), (12, .int x12), (17, .int x17), (18, .int x18), (19, .int x19)] → k1215 x5 x6 x7 x8 x9 x12 x17 x18 x19 w_bb w_m w_v σ = some (1 : Int32) → W p l e room_1 s m #[Value.ref b] below meth c H locs 44 13141 (lw_Z below #[Value.ref b] s) (F0 m 1215 ls [])) : ∀ (w : va_W) (x5 : Int32) (x6 : Int32) (x7 : Int32) (x8 : Int32) (x9 : Int32) (x12 : Int32) (x17 : Int32) (x18 : Int32) (x19 : Int32) (x20 : Int32) (s0 : Int32) (w_bb : Nat → Int32) (w_m : Nat → Int32) (w_v : Nat → Int32) (σ : k_SB) (H : Heap) (locs : List Loc) (ls : Array Slot), XW G h_o σ w → va_P G.1 vwCl ([(h_bb, .inl (k_cI G, 21, .inl w_bb)), (h_m, .inl (k_cI G, 7, .inl w_m)), (h_v, .inl (k_cI G, 4, .inl w_v))] ++ w) H → va_D A ([(h_bb, .inl (k_cI G, 21, .inl w_bb)), (h_m, .inl (k_cI G, 7, .inl w_m)), (h_v, .inl (k_cI G, 4, .inl w_v))] ++ w) → va_S A s.heap H locs → lv_has ls 21 [(0, .ref (k_xB G)), (1, .ref h_o), (3, .ref h_bb), (4, .ref h_v), (5, .int x5), (6, .int x6), (7, .int x7), (8, .int x8), (9, .int x9), (12, .int x12), (17, .int x17), (18, .int x18), (19, .int x19), (20, .int x20)] → f_L_law_1292 (k_xL G) (k_xs G) k286 k305 k1111 k1215 x5 x6 x7 x8 x9 x12 x17 x18 x19 x20 s0 w_bb w_m w_v σ = some (1 : Int32) → W p l e room_1 s m #[Value.ref b] below meth c H locs 44 13141 (lw_Z below #[Value.ref b] s) (F0 m 1292 ls [.int s0]) := by
  have hx := C0.1
  have hb := C0.2.1
  have hts := C0.2.2.2.1
  have hown := C0.2.2.2.2.1
  have hK := C0.2.2.2.2.2.2.2.2.1.1
  have hNW := C0.2.2.2.2.2.2.2.2.1.2.1
  have hSF := C0.2.2.2.2.2.2.2.2.1.2.2
  intro w x5 x6 x7 x8 x9 x12 x17 x18 x19 x20 s0 w_bb w_m w_v σ H locs ls hXW hP hD hS hl hrun
  rw [f_L_law_1292] at hrun
  refine lv_aload_n hx hb dL_law_1292 rfl (lv_at hl 1 rfl) ?_
  refine lv_iload hx hb dL_law_1293 (lv_at hl 12 rfl) ?_
  refine lv_iconst (v := 0) hx hb dL_law_1295 (by decide) ?_
  obtain ⟨t1, et1, hrun⟩ := bd_inv hrun
  obtain ⟨σ2, eσ2, hrun⟩ := lt_inv hrun
  obtain ⟨fs9, he9⟩ := XW_head hXW
  refine lw_callVi (wr := [(h_bb, .inl (k_cI G, 21, .inl w_bb)), (h_m, .inl (k_cI G, 7, .inl w_m)), (h_v, .inl (k_cI G, 4, .inl w_v))]) (rest := [.int s0]) C0 (lx_stack hXW et1 H.size) (cwV 2 hts gL_law_X11_stack rfl rfl rfl e_X11_stack ⟨Nat.le_of_ble_eq_true rfl, Nat.le_of_ble_eq_true rfl⟩) hP hD hS rfl rfl he9 rfl hl.1 rfl (Nat.le_of_ble_eq_true rfl) dL_law_1296 ⟨Nat.le_of_ble_eq_true rfl, Nat.le_of_ble_eq_true rfl⟩ (fun w3 H locs hXW hP hD hS => ?_)
  replace hXW : XW G h_o σ2 w3 := by rw [eσ2]; exact hXW
  clear et1 eσ2 he9
  refine lv_iload hx hb dL_law_1299 (lv_at hl 7 rfl) ?_
  refine lv_icmp_eq (tgt := 1308) hx hb dL_law_1301 (by decide) (fun q4 => ?_) (fun q4 => ?_)
  · replace hrun := if_t q4 hrun
    refine lv_iconst (v := 0) hx hb dL_law_1308 (by decide) ?_
    exact t_L_law_1309 C0 hAs k286 hk286 k305 hk305 k1111 hk1111 k1215 hk1215 w3 x5 x6 x7 x8 x9 x12 x17 x18 x19 x20 s0 (0 : Int32) w_bb w_m w_v σ2 _ _ _ hXW hP hD hS hl hrun
  · replace hrun := if_f q4 hrun
    refine lv_iconst (v := 1) hx hb dL_law_1304 (by decide) ?_
    refine lv_goto (tgt := 1309) hx hb dL_law_1305 (by decide) ?_
    exact t_L_law_1309 C0 hAs k286 hk286 k305 hk305 k1111 hk1111 k1215 hk1215 w3 x5 x6 x7 x8 x9 x12 x17 x18 x19 x20 s0 (1 : Int32) w_bb w_m w_v σ2 _ _ _ hXW hP hD hS hl hrun
set_option maxHeartbeats 4000000 in
set_option maxRecDepth 100000 in
theorem t_L_law_1279 {l : Launch} {G : k_G} {p : Program} {e : Env} {s : State} {m : MethodId} {b : Nat} {below : List Frame} {meth : Method} {c : Code} {A : Nat → Prop} {h_bb h_m h_v h_o : Nat} (C0 : k_C G p s m #[Value.ref b] meth c A code RL lw_tbl 21 (some .boolean) meth.name) (hAs : ∀ q, A q → s.heap.size ≤ q) (k286 : Int32 → (Nat → Int32) → (Nat → Int32) → (Nat → Int32) → k_SB → Option (Int32)) (hk286 : ∀ (w : va_W) (x5 : Int32) (w_bb : Nat → Int32) (w_m : Nat → Int32) (w_v : Nat → Int32) (σ : k_SB) (H : Heap) (locs : List Loc) (ls : Array Slot), XW G h_o σ w → va_P G.1 vwCl ([(h_bb, .inl (k_cI G, 21, .inl w_bb)), (h_m, .inl (k_cI G, 7, .inl w_m)), (h_v, .inl (k_cI G, 4, .inl w_v))] ++ w) H → va_D A ([(h_bb, .inl (k_cI G, 21, .inl w_bb)), (h_m, .inl (k_cI G, 7, .inl w_m)), (h_v, .inl (k_cI G, 4, .inl w_v))] ++ w) → va_S A s.heap H locs → lv_has ls 21 [(0, .ref (k_xB G)), (1, .ref h_o), (3, .ref h_bb), (4, .ref h_v), (5, .int x5)] → k286 x5 w_bb w_m w_v σ = some (1 : Int32) → W p l e room_1 s m #[Value.ref b] below meth c H locs 44 13141 (lw_Z below #[Value.ref b] s) (F0 m 286 ls [])) (k305 : Int32 → Int32 → Int32 → (Nat → Int32) → (Nat → Int32) → (Nat → Int32) → k_SB → Option (Int32)) (hk305 : ∀ (w : va_W) (x5 : Int32) (x6 : Int32) (x7 : Int32) (w_bb : Nat → Int32) (w_m : Nat → Int32) (w_v : Nat → Int32) (σ : k_SB) (H : Heap) (locs : List Loc) (ls : Array Slot), XW G h_o σ w → va_P G.1 vwCl ([(h_bb, .inl (k_cI G, 21, .inl w_bb)), (h_m, .inl (k_cI G, 7, .inl w_m)), (h_v, .inl (k_cI G, 4, .inl w_v))] ++ w) H → va_D A ([(h_bb, .inl (k_cI G, 21, .inl w_bb)), (h_m, .inl (k_cI G, 7, .inl w_m)), (h_v, .inl (k_cI G, 4, .inl w_v))] ++ w) → va_S A s.heap H locs → lv_has ls 21 [(0, .ref (k_xB G)), (1, .ref h_o), (3, .ref h_bb), (4, .ref h_v), (5, .int x5), (6, .int x6), (7, .int x7)] → k305 x5 x6 x7 w_bb w_m w_v σ = some (1 : Int32) → W p l e room_1 s m #[Value.ref b] below meth c H locs 44 13141 (lw_Z below #[Value.ref b] s) (F0 m 305 ls [])) (k1111 : Int32 → Int32 → Int32 → Int32 → Int32 → Int32 → Int32 → (Nat → Int32) → (Nat → Int32) → (Nat → Int32) → k_SB → Option (Int32)) (hk1111 : ∀ (w : va_W) (x5 : Int32) (x6 : Int32) (x7 : Int32) (x8 : Int32) (x9 : Int32) (x12 : Int32) (x17 : Int32) (w_bb : Nat → Int32) (w_m : Nat → Int32) (w_v : Nat → Int32) (σ : k_SB) (H : Heap) (locs : List Loc) (ls : Array Slot), XW G h_o σ w → va_P G.1 vwCl ([(h_bb, .inl (k_cI G, 21, .inl w_bb)), (h_m, .inl (k_cI G, 7, .inl w_m)), (h_v, .inl (k_cI G, 4, .inl w_v))] ++ w) H → va_D A ([(h_bb, .inl (k_cI G, 21, .inl w_bb)), (h_m, .inl (k_cI G, 7, .inl w_m)), (h_v, .inl (k_cI G, 4, .inl w_v))] ++ w) → va_S A s.heap H locs → lv_has ls 21 [(0, .ref (k_xB G)), (1, .ref h_o), (3, .ref h_bb), (4, .ref h_v), (5, .int x5), (6, .int x6), (7, .int x7), (8, .int x8), (9, .int x9), (12, .int x12), (17, .int x17)] → k1111 x5 x6 x7 x8 x9 x12 x17 w_bb w_m w_v σ = some (1 : Int32) → W p l e room_1 s m #[Value.ref b] below meth c H locs 44 13141 (lw_Z below #[Value.ref b] s) (F0 m 1111 ls [])) (k1215 : Int32 → Int32 → Int32 → Int32 → Int32 → Int32 → Int32 → Int32 → Int32 → (Nat → Int32) → (Nat → Int32) → (Nat → Int32) → k_SB → Option (Int32)) (hk1215 : ∀ (w : va_W) (x5 : Int32) (x6 : Int32) (x7 : Int32) (x8 : Int32) (x9 : Int32) (x12 : Int32) (x17 : Int32) (x18 : Int32) (x19 : Int32) (w_bb : Nat → Int32) (w_m : Nat → Int32) (w_v : Nat → Int32) (σ : k_SB) (H : Heap) (locs : List Loc) (ls : Array Slot), XW G h_o σ w → va_P G.1 vwCl ([(h_bb, .inl (k_cI G, 21, .inl w_bb)), (h_m, .inl (k_cI G, 7, .inl w_m)), (h_v, .inl (k_cI G, 4, .inl w_v))] ++ w) H → va_D A ([(h_bb, .inl (k_cI G, 21, .inl w_bb)), (h_m, .inl (k_cI G, 7, .inl w_m)), (h_v, .inl (k_cI G, 4, .inl w_v))] ++ w) → va_S A s.heap H locs → lv_has ls 21 [(0, .ref (k_xB G)), (1, .ref h_o), (3, .ref h_bb), (4, .ref h_v), (5, .int x5), (6, .int x6), (7, .int x7), (8, .int x8), (9, .int x9), (12, .int x12), (17, .int x17), (18, .int x18), (19, .int x19)] → k1215 x5 x6 x7 x8 x9 x12 x17 x18 x19 w_bb w_m w_v σ = some (1 : Int32) → W p l e room_1 s m #[Value.ref b] below meth c H locs 44 13141 (lw_Z below #[Value.ref b] s) (F0 m 1215 ls [])) : ∀ (w : va_W) (x5 : Int32) (x6 : Int32) (x7 : Int32) (x8 : Int32) (x9 : Int32) (x12 : Int32) (x17 : Int32) (x18 : Int32) (x19 : Int32) (x20 : Int32) (s0 : Int32) (s1 : Int32) (w_bb : Nat → Int32) (w_m : Nat → Int32) (w_v : Nat → Int32) (σ : k_SB) (H : Heap) (locs : List Loc) (ls : Array Slot), XW G h_o σ w → va_P G.1 vwCl ([(h_bb, .inl (k_cI G, 21, .inl w_bb)), (h_m, .inl (k_cI G, 7, .inl w_m)), (h_v, .inl (k_cI G, 4, .inl w_v))] ++ w) H → va_D A ([(h_bb, .inl (k_cI G, 21, .inl w_bb)), (h_m, .inl (k_cI G, 7, .inl w_m)), (h_v, .inl (k_cI G, 4, .inl w_v))] ++ w) → va_S A s.heap H locs → lv_has ls 21 [(0, .ref (k_xB G)), (1, .ref h_o), (3, .ref h_bb), (4, .ref h_v), (5, .int x5), (6, .int x6), (7, .int x7), (8, .int x8), (9, .int x9), (12, .int x12), (17, .int x17), (18, .int x18), (19, .int x19), (20, .int x20)] → f_L_law_1279 (k_xL G) (k_xs G) k286 k305 k1111 k1215 x5 x6 x7 x8 x9 x12 x17 x18 x19 x20 s0 s1 w_bb w_m w_v σ = some (1 : Int32) → W p l e room_1 s m #[Value.ref b] below meth c H locs 44 13141 (lw_Z below #[Value.ref b] s) (F0 m 1279 ls [.int s1, .int s0]) := by
  have hx := C0.1
  have hb := C0.2.1
  have hts := C0.2.2.2.1
  have hown := C0.2.2.2.2.1
  have hK := C0.2.2.2.2.2.2.2.2.1.1
  have hNW := C0.2.2.2.2.2.2.2.2.1.2.1
  have hSF := C0.2.2.2.2.2.2.2.2.1.2.2
  intro w x5 x6 x7 x8 x9 x12 x17 x18 x19 x20 s0 s1 w_bb w_m w_v σ H locs ls hXW hP hD hS hl hrun
  rw [f_L_law_1279] at hrun
  refine lv_icmp_ne (tgt := 1319) hx hb dL_law_1279 (by decide) (fun q1 => ?_) (fun q1 => ?_)
  · replace hrun := if_f q1 hrun
    refine lv_iconst (v := 0) hx hb dL_law_1319 (by decide) ?_
    exact absurd (Option.some.inj hrun) (by decide)
  · replace hrun := if_t q1 hrun
    refine lv_iload hx hb dL_law_1282 (lv_at hl 13 rfl) ?_
    refine lv_if_ge (tgt := 1291) hx hb dL_law_1284 (by decide) (fun q2 => ?_) (fun q2 => ?_)
    · replace hrun := if_t q2 hrun
      refine lv_iconst (v := 0) hx hb dL_law_1291 (by decide) ?_
      exact t_L_law_1292 C0 hAs k286 hk286 k305 hk305 k1111 hk1111 k1215 hk1215 w x5 x6 x7 x8 x9 x12 x17 x18 x19 x20 (0 : Int32) w_bb w_m w_v σ _ _ _ hXW hP hD hS hl hrun
    · replace hrun := if_f q2 hrun
      refine lv_iconst (v := 1) hx hb dL_law_1287 (by decide) ?_
      refine lv_goto (tgt := 1292) hx hb dL_law_1288 (by decide) ?_
      exact t_L_law_1292 C0 hAs k286 hk286 k305 hk305 k1111 hk1111 k1215 hk1215 w x5 x6 x7 x8 x9 x12 x17 x18 x19 x20 (1 : Int32) w_bb w_m w_v σ _ _ _ hXW hP hD hS hl hrun
set_option maxHeartbeats 4000000 in
set_option maxRecDepth 100000 in
theorem t_L_law_1260 {l : Launch} {G : k_G} {p : Program} {e : Env} {s : State} {m : MethodId} {b : Nat} {below : List Frame} {meth : Method} {c : Code} {A : Nat → Prop} {h_bb h_m h_v h_o : Nat} (C0 : k_C G p s m #[Value.ref b] meth c A code RL lw_tbl 21 (some .boolean) meth.name) (hAs : ∀ q, A q → s.heap.size ≤ q) (k286 : Int32 → (Nat → Int32) → (Nat → Int32) → (Nat → Int32) → k_SB → Option (Int32)) (hk286 : ∀ (w : va_W) (x5 : Int32) (w_bb : Nat → Int32) (w_m : Nat → Int32) (w_v : Nat → Int32) (σ : k_SB) (H : Heap) (locs : List Loc) (ls : Array Slot), XW G h_o σ w → va_P G.1 vwCl ([(h_bb, .inl (k_cI G, 21, .inl w_bb)), (h_m, .inl (k_cI G, 7, .inl w_m)), (h_v, .inl (k_cI G, 4, .inl w_v))] ++ w) H → va_D A ([(h_bb, .inl (k_cI G, 21, .inl w_bb)), (h_m, .inl (k_cI G, 7, .inl w_m)), (h_v, .inl (k_cI G, 4, .inl w_v))] ++ w) → va_S A s.heap H locs → lv_has ls 21 [(0, .ref (k_xB G)), (1, .ref h_o), (3, .ref h_bb), (4, .ref h_v), (5, .int x5)] → k286 x5 w_bb w_m w_v σ = some (1 : Int32) → W p l e room_1 s m #[Value.ref b] below meth c H locs 44 13141 (lw_Z below #[Value.ref b] s) (F0 m 286 ls [])) (k305 : Int32 → Int32 → Int32 → (Nat → Int32) → (Nat → Int32) → (Nat → Int32) → k_SB → Option (Int32)) (hk305 : ∀ (w : va_W) (x5 : Int32) (x6 : Int32) (x7 : Int32) (w_bb : Nat → Int32) (w_m : Nat → Int32) (w_v : Nat → Int32) (σ : k_SB) (H : Heap) (locs : List Loc) (ls : Array Slot), XW G h_o σ w → va_P G.1 vwCl ([(h_bb, .inl (k_cI G, 21, .inl w_bb)), (h_m, .inl (k_cI G, 7, .inl w_m)), (h_v, .inl (k_cI G, 4, .inl w_v))] ++ w) H → va_D A ([(h_bb, .inl (k_cI G, 21, .inl w_bb)), (h_m, .inl (k_cI G, 7, .inl w_m)), (h_v, .inl (k_cI G, 4, .inl w_v))] ++ w) → va_S A s.heap H locs → lv_has ls 21 [(0, .ref (k_xB G)), (1, .ref h_o), (3, .ref h_bb), (4, .ref h_v), (5, .int x5), (6, .int x6), (7, .int x7)] → k305 x5 x6 x7 w_bb w_m w_v σ = some (1 : Int32) → W p l e room_1 s m #[Value.ref b] below meth c H locs 44 13141 (lw_Z below #[Value.ref b] s) (F0 m 305 ls [])) (k1111 : Int32 → Int32 → Int32 → Int32 → Int32 → Int32 → Int32 → (Nat → Int32) → (Nat → Int32) → (Nat → Int32) → k_SB → Option (Int32)) (hk1111 : ∀ (w : va_W) (x5 : Int32) (x6 : Int32) (x7 : Int32) (x8 : Int32) (x9 : Int32) (x12 : Int32) (x17 : Int32) (w_bb : Nat → Int32) (w_m : Nat → Int32) (w_v : Nat → Int32) (σ : k_SB) (H : Heap) (locs : List Loc) (ls : Array Slot), XW G h_o σ w → va_P G.1 vwCl ([(h_bb, .inl (k_cI G, 21, .inl w_bb)), (h_m, .inl (k_cI G, 7, .inl w_m)), (h_v, .inl (k_cI G, 4, .inl w_v))] ++ w) H → va_D A ([(h_bb, .inl (k_cI G, 21, .inl w_bb)), (h_m, .inl (k_cI G, 7, .inl w_m)), (h_v, .inl (k_cI G, 4, .inl w_v))] ++ w) → va_S A s.heap H locs → lv_has ls 21 [(0, .ref (k_xB G)), (1, .ref h_o), (3, .ref h_bb), (4, .ref h_v), (5, .int x5), (6, .int x6), (7, .int x7), (8, .int x8), (9, .int x9), (12, .int x12), (17, .int x17)] → k1111 x5 x6 x7 x8 x9 x12 x17 w_bb w_m w_v σ = some (1 : Int32) → W p l e room_1 s m #[Value.ref b] below meth c H locs 44 13141 (lw_Z below #[Value.ref b] s) (F0 m 1111 ls [])) (k1215 : Int32 → Int32 → Int32 → Int32 → Int32 → Int32 → Int32 → Int32 → Int32 → (Nat → Int32) → (Nat → Int32) → (Nat → Int32) → k_SB → Option (Int32)) (hk1215 : ∀ (w : va_W) (x5 : Int32) (x6 : Int32) (x7 : Int32) (x8 : Int32) (x9 : Int32) (x12 : Int32) (x17 : Int32) (x18 : Int32) (x19 : Int32) (w_bb : Nat → Int32) (w_m : Nat → Int32) (w_v : Nat → Int32) (σ : k_SB) (H : Heap) (locs : List Loc) (ls : Array Slot), XW G h_o σ w → va_P G.1 vwCl ([(h_bb, .inl (k_cI G, 21, .inl w_bb)), (h_m, .inl (k_cI G, 7, .inl w_m)), (h_v, .inl (k_cI G, 4, .inl w_v))] ++ w) H → va_D A ([(h_bb, .inl (k_cI G, 21, .inl w_bb)), (h_m, .inl (k_cI G, 7, .inl w_m)), (h_v, .inl (k_cI G, 4, .inl w_v))] ++ w) → va_S A s.heap H locs → lv_has ls 21 [(0, .ref (k_xB G)), (1, .ref h_o), (3, .ref h_bb), (4, .ref h_v), (5, .int x5), (6, .int x6), (7, .int x7), (8, .int x8), (9, .int x9), (12, .int x12), (17, .int x17), (18, .int x18), (19, .int x19)] → k1215 x5 x6 x7 x8 x9 x12 x17 x18 x19 w_bb w_m w_v σ = some (1 : Int32) → W p l e room_1 s m #[Value.ref b] below meth c H locs 44 13141 (lw_Z below #[Value.ref b] s) (F0 m 1215 ls [])) : ∀ (w : va_W) (x5 : Int32) (x6 : Int32) (x7 : Int32) (x8 : Int32) (x9 : Int32) (x12 : Int32) (x17 : Int32) (x18 : Int32) (x19 : Int32) (x20 : Int32) (s0 : Int32) (w_bb : Nat → Int32) (w_m : Nat → Int32) (w_v : Nat → Int32) (σ : k_SB) (H : Heap) (locs : List Loc) (ls : Array Slot), XW G h_o σ w → va_P G.1 vwCl ([(h_bb, .inl (k_cI G, 21, .inl w_bb)), (h_m, .inl (k_cI G, 7, .inl w_m)), (h_v, .inl (k_cI G, 4, .inl w_v))] ++ w) H → va_D A ([(h_bb, .inl (k_cI G, 21, .inl w_bb)), (h_m, .inl (k_cI G, 7, .inl w_m)), (h_v, .inl (k_cI G, 4, .inl w_v))] ++ w) → va_S A s.heap H locs → lv_has ls 21 [(0, .ref (k_xB G)), (1, .ref h_o), (3, .ref h_bb), (4, .ref h_v), (5, .int x5), (6, .int x6), (7, .int x7), (8, .int x8), (9, .int x9), (12, .int x12), (17, .int x17), (18, .int x18), (19, .int x19), (20, .int x20)] → f_L_law_1260 (k_xL G) (k_xs G) k286 k305 k1111 k1215 x5 x6 x7 x8 x9 x12 x17 x18 x19 x20 s0 w_bb w_m w_v σ = some (1 : Int32) → W p l e room_1 s m #[Value.ref b] below meth c H locs 44 13141 (lw_Z below #[Value.ref b] s) (F0 m 1260 ls [.int s0]) := by
  have hx := C0.1
  have hb := C0.2.1
  have hts := C0.2.2.2.1
  have hown := C0.2.2.2.2.1
  have hK := C0.2.2.2.2.2.2.2.2.1.1
  have hNW := C0.2.2.2.2.2.2.2.2.1.2.1
  have hSF := C0.2.2.2.2.2.2.2.2.1.2.2
  intro w x5 x6 x7 x8 x9 x12 x17 x18 x19 x20 s0 w_bb w_m w_v σ H locs ls hXW hP hD hS hl hrun
  rw [f_L_law_1260] at hrun
  refine lv_aload_n hx hb dL_law_1260 rfl (lv_at hl 1 rfl) ?_
  refine lv_iload hx hb dL_law_1261 (lv_at hl 6 rfl) ?_
  refine lv_iload hx hb dL_law_1263 (lv_at hl 12 rfl) ?_
  refine lv_iload hx hb dL_law_1265 (lv_at hl 10 rfl) ?_
  obtain ⟨t1, et1, hrun⟩ := bd_inv hrun
  obtain ⟨σ2, eσ2, hrun⟩ := lt_inv hrun
  obtain ⟨fs9, he9⟩ := XW_head hXW
  refine lw_callVi (wr := [(h_bb, .inl (k_cI G, 21, .inl w_bb)), (h_m, .inl (k_cI G, 7, .inl w_m)), (h_v, .inl (k_cI G, 4, .inl w_v))]) (rest := [.int s0]) C0 (lx_alike hXW et1 H.size) (cwV 3 hts gL_law_X11_alike rfl rfl rfl e_X11_alike ⟨Nat.le_of_ble_eq_true rfl, Nat.le_of_ble_eq_true rfl⟩) hP hD hS rfl rfl he9 rfl hl.1 rfl (Nat.le_of_ble_eq_true rfl) dL_law_1267 ⟨Nat.le_of_ble_eq_true rfl, Nat.le_of_ble_eq_true rfl⟩ (fun w3 H locs hXW hP hD hS => ?_)
  replace hXW : XW G h_o σ2 w3 := by rw [eσ2]; exact hXW
  clear et1 eσ2 he9
  refine lv_iconst (v := 1) hx hb dL_law_1270 (by decide) ?_
  refine lv_icmp_ne (tgt := 1278) hx hb dL_law_1271 (by decide) (fun q4 => ?_) (fun q4 => ?_)
  · replace hrun := if_f q4 hrun
    refine lv_iconst (v := 0) hx hb dL_law_1278 (by decide) ?_
    exact t_L_law_1279 C0 hAs k286 hk286 k305 hk305 k1111 hk1111 k1215 hk1215 w3 x5 x6 x7 x8 x9 x12 x17 x18 x19 x20 s0 (0 : Int32) w_bb w_m w_v σ2 _ _ _ hXW hP hD hS hl hrun
  · replace hrun := if_t q4 hrun
    refine lv_iconst (v := 1) hx hb dL_law_1274 (by decide) ?_
    refine lv_goto (tgt := 1279) hx hb dL_law_1275 (by decide) ?_
    exact t_L_law_1279 C0 hAs k286 hk286 k305 hk305 k1111 hk1111 k1215 hk1215 w3 x5 x6 x7 x8 x9 x12 x17 x18 x19 x20 s0 (1 : Int32) w_bb w_m w_v σ2 _ _ _ hXW hP hD hS hl hrun
set_option maxHeartbeats 4000000 in
set_option maxRecDepth 100000 in
theorem t_L_law_1215 {l : Launch} {G : k_G} {p : Program} {e : Env} {s : State} {m : MethodId} {b : Nat} {below : List Frame} {meth : Method} {c : Code} {A : Nat → Prop} {h_bb h_m h_v h_o : Nat} (C0 : k_C G p s m #[Value.ref b] meth c A code RL lw_tbl 21 (some .boolean) meth.name) (hAs : ∀ q, A q → s.heap.size ≤ q) (k286 : Int32 → (Nat → Int32) → (Nat → Int32) → (Nat → Int32) → k_SB → Option (Int32)) (hk286 : ∀ (w : va_W) (x5 : Int32) (w_bb : Nat → Int32) (w_m : Nat → Int32) (w_v : Nat → Int32) (σ : k_SB) (H : Heap) (locs : List Loc) (ls : Array Slot), XW G h_o σ w → va_P G.1 vwCl ([(h_bb, .inl (k_cI G, 21, .inl w_bb)), (h_m, .inl (k_cI G, 7, .inl w_m)), (h_v, .inl (k_cI G, 4, .inl w_v))] ++ w) H → va_D A ([(h_bb, .inl (k_cI G, 21, .inl w_bb)), (h_m, .inl (k_cI G, 7, .inl w_m)), (h_v, .inl (k_cI G, 4, .inl w_v))] ++ w) → va_S A s.heap H locs → lv_has ls 21 [(0, .ref (k_xB G)), (1, .ref h_o), (3, .ref h_bb), (4, .ref h_v), (5, .int x5)] → k286 x5 w_bb w_m w_v σ = some (1 : Int32) → W p l e room_1 s m #[Value.ref b] below meth c H locs 44 13141 (lw_Z below #[Value.ref b] s) (F0 m 286 ls [])) (k305 : Int32 → Int32 → Int32 → (Nat → Int32) → (Nat → Int32) → (Nat → Int32) → k_SB → Option (Int32)) (hk305 : ∀ (w : va_W) (x5 : Int32) (x6 : Int32) (x7 : Int32) (w_bb : Nat → Int32) (w_m : Nat → Int32) (w_v : Nat → Int32) (σ : k_SB) (H : Heap) (locs : List Loc) (ls : Array Slot), XW G h_o σ w → va_P G.1 vwCl ([(h_bb, .inl (k_cI G, 21, .inl w_bb)), (h_m, .inl (k_cI G, 7, .inl w_m)), (h_v, .inl (k_cI G, 4, .inl w_v))] ++ w) H → va_D A ([(h_bb, .inl (k_cI G, 21, .inl w_bb)), (h_m, .inl (k_cI G, 7, .inl w_m)), (h_v, .inl (k_cI G, 4, .inl w_v))] ++ w) → va_S A s.heap H locs → lv_has ls 21 [(0, .ref (k_xB G)), (1, .ref h_o), (3, .ref h_bb), (4, .ref h_v), (5, .int x5), (6, .int x6), (7, .int x7)] → k305 x5 x6 x7 w_bb w_m w_v σ = some (1 : Int32) → W p l e room_1 s m #[Value.ref b] below meth c H locs 44 13141 (lw_Z below #[Value.ref b] s) (F0 m 305 ls [])) (k1111 : Int32 → Int32 → Int32 → Int32 → Int32 → Int32 → Int32 → (Nat → Int32) → (Nat → Int32) → (Nat → Int32) → k_SB → Option (Int32)) (hk1111 : ∀ (w : va_W) (x5 : Int32) (x6 : Int32) (x7 : Int32) (x8 : Int32) (x9 : Int32) (x12 : Int32) (x17 : Int32) (w_bb : Nat → Int32) (w_m : Nat → Int32) (w_v : Nat → Int32) (σ : k_SB) (H : Heap) (locs : List Loc) (ls : Array Slot), XW G h_o σ w → va_P G.1 vwCl ([(h_bb, .inl (k_cI G, 21, .inl w_bb)), (h_m, .inl (k_cI G, 7, .inl w_m)), (h_v, .inl (k_cI G, 4, .inl w_v))] ++ w) H → va_D A ([(h_bb, .inl (k_cI G, 21, .inl w_bb)), (h_m, .inl (k_cI G, 7, .inl w_m)), (h_v, .inl (k_cI G, 4, .inl w_v))] ++ w) → va_S A s.heap H locs → lv_has ls 21 [(0, .ref (k_xB G)), (1, .ref h_o), (3, .ref h_bb), (4, .ref h_v), (5, .int x5), (6, .int x6), (7, .int x7), (8, .int x8), (9, .int x9), (12, .int x12), (17, .int x17)] → k1111 x5 x6 x7 x8 x9 x12 x17 w_bb w_m w_v σ = some (1 : Int32) → W p l e room_1 s m #[Value.ref b] below meth c H locs 44 13141 (lw_Z below #[Value.ref b] s) (F0 m 1111 ls [])) : ∀ (n : Nat) (w : va_W) (x5 : Int32) (x6 : Int32) (x7 : Int32) (x8 : Int32) (x9 : Int32) (x12 : Int32) (x17 : Int32) (x18 : Int32) (x19 : Int32) (w_bb : Nat → Int32) (w_m : Nat → Int32) (w_v : Nat → Int32) (σ : k_SB) (H : Heap) (locs : List Loc) (ls : Array Slot), XW G h_o σ w → va_P G.1 vwCl ([(h_bb, .inl (k_cI G, 21, .inl w_bb)), (h_m, .inl (k_cI G, 7, .inl w_m)), (h_v, .inl (k_cI G, 4, .inl w_v))] ++ w) H → va_D A ([(h_bb, .inl (k_cI G, 21, .inl w_bb)), (h_m, .inl (k_cI G, 7, .inl w_m)), (h_v, .inl (k_cI G, 4, .inl w_v))] ++ w) → va_S A s.heap H locs → lv_has ls 21 [(0, .ref (k_xB G)), (1, .ref h_o), (3, .ref h_bb), (4, .ref h_v), (5, .int x5), (6, .int x6), (7, .int x7), (8, .int x8), (9, .int x9), (12, .int x12), (17, .int x17), (18, .int x18), (19, .int x19)] → f_L_law_1215 (k_xL G) (k_xs G) k286 k305 k1111 n x5 x6 x7 x8 x9 x12 x17 x18 x19 w_bb w_m w_v σ = some (1 : Int32) → W p l e room_1 s m #[Value.ref b] below meth c H locs 44 13141 (lw_Z below #[Value.ref b] s) (F0 m 1215 ls []) := by
  have hx := C0.1
  have hb := C0.2.1
  have hts := C0.2.2.2.1
  have hown := C0.2.2.2.2.1
  have hK := C0.2.2.2.2.2.2.2.2.1.1
  have hNW := C0.2.2.2.2.2.2.2.2.1.2.1
  have hSF := C0.2.2.2.2.2.2.2.2.1.2.2
  intro n
  induction n with
  | zero =>
    intro w x5 x6 x7 x8 x9 x12 x17 x18 x19 w_bb w_m w_v σ H locs ls hXW hP hD hS hl hrun
    rw [f_L_law_1215] at hrun
    cases hrun
  | succ n ih =>
    intro w x5 x6 x7 x8 x9 x12 x17 x18 x19 w_bb w_m w_v σ H locs ls hXW hP hD hS hl hrun
    rw [f_L_law_1215] at hrun
    refine lv_iload hx hb dL_law_1215 (lv_at hl 12 rfl) ?_
    refine lv_aload_n hx hb dL_law_1217 rfl (lv_at hl 2 rfl) ?_
    refine lv_iconst (v := 4) hx hb dL_law_1218 (by decide) ?_
    obtain ⟨gz1, hrun⟩ := gd_inv hrun
    refine va_iald hx hb hK hP 0 1 rfl rfl gz1 dL_law_1219 ?_
    refine lv_icmp_ge (tgt := 1380) hx hb dL_law_1220 (by decide) (fun q2 => ?_) (fun q2 => ?_)
    · replace hrun := if_t q2 hrun
      refine lv_iinc (v := x17 + 1) (lv' := [(17, .int (x17 + 1)), (0, .ref (k_xB G)), (1, .ref h_o), (3, .ref h_bb), (4, .ref h_v), (5, .int x5), (6, .int x6), (7, .int x7), (8, .int x8), (9, .int x9), (12, .int x12), (18, .int x18), (19, .int x19)]) hx hb dL_law_1380 hl (k := 10) rfl rfl (by decide) rfl (fun ls hl => ?_)
      refine lv_goto (tgt := 1111) hx hb dL_law_1383 (by decide) ?_
      exact hk1111 w x5 x6 x7 x8 x9 x12 (x17 + 1) w_bb w_m w_v σ _ _ _ hXW hP hD hS (lv_sub hl [1, 2, 3, 4, 5, 6, 7, 8, 9, 10, 0] rfl) hrun
    · replace hrun := if_f q2 hrun
      refine lv_aload_n hx hb dL_law_1223 rfl (lv_at hl 1 rfl) ?_
      refine lv_iload hx hb dL_law_1224 (lv_at hl 6 rfl) ?_
      refine lv_iload hx hb dL_law_1226 (lv_at hl 12 rfl) ?_
      refine lv_iload hx hb dL_law_1228 (lv_at hl 10 rfl) ?_
      obtain ⟨t3, et3, hrun⟩ := bd_inv hrun
      obtain ⟨σ4, eσ4, hrun⟩ := lt_inv hrun
      obtain ⟨fs9, he9⟩ := XW_head hXW
      refine lw_callVi (wr := [(h_bb, .inl (k_cI G, 21, .inl w_bb)), (h_m, .inl (k_cI G, 7, .inl w_m)), (h_v, .inl (k_cI G, 4, .inl w_v))]) (rest := []) C0 (lx_slips hXW et3 H.size) (cwV 3 hts gL_law_X11_slips rfl rfl rfl e_X11_slips ⟨Nat.le_of_ble_eq_true rfl, Nat.le_of_ble_eq_true rfl⟩) hP hD hS rfl rfl he9 rfl hl.1 rfl (Nat.le_of_ble_eq_true rfl) dL_law_1230 ⟨Nat.le_of_ble_eq_true rfl, Nat.le_of_ble_eq_true rfl⟩ (fun w5 H locs hXW hP hD hS => ?_)
      replace hXW : XW G h_o σ4 w5 := by rw [eσ4]; exact hXW
      clear et3 eσ4 he9
      refine lv_istore (lv' := [(20, .int t3.1), (0, .ref (k_xB G)), (1, .ref h_o), (3, .ref h_bb), (4, .ref h_v), (5, .int x5), (6, .int x6), (7, .int x7), (8, .int x8), (9, .int x9), (12, .int x12), (17, .int x17), (18, .int x18), (19, .int x19)]) hx hb dL_law_1233 hl (by decide) rfl (fun ls hl => ?_)
      refine lv_iload hx hb dL_law_1235 (lv_at hl 0 rfl) ?_
      refine lv_aload_n hx hb dL_law_1237 rfl (lv_at hl 2 rfl) ?_
      refine lv_iload hx hb dL_law_1238 (lv_at hl 13 rfl) ?_
      refine lv_iload hx hb dL_law_1240 (lv_at hl 7 rfl) ?_
      refine lv_iload hx hb dL_law_1242 (lv_at hl 11 rfl) ?_
      obtain ⟨t6, et6, hrun⟩ := bd_inv hrun
      obtain ⟨σ7, eσ7, hrun⟩ := lt_inv hrun
      obtain ⟨fs9, he9⟩ := XW_head hXW
      refine lw_callVi (wr := [(h_bb, .inl (k_cI G, 21, .inl w_bb)), (h_m, .inl (k_cI G, 7, .inl w_m)), (h_v, .inl (k_cI G, 4, .inl w_v))]) (rest := [.int t3.1]) C0 (lx_slips hXW et6 H.size) (cwV 3 hts gL_law_X11_slips rfl rfl rfl e_X11_slips ⟨Nat.le_of_ble_eq_true rfl, Nat.le_of_ble_eq_true rfl⟩) hP hD hS rfl rfl he9 rfl hl.1 rfl (Nat.le_of_ble_eq_true rfl) dL_law_1244 ⟨Nat.le_of_ble_eq_true rfl, Nat.le_of_ble_eq_true rfl⟩ (fun w8 H locs hXW hP hD hS => ?_)
      replace hXW : XW G h_o σ7 w8 := by rw [eσ7]; exact hXW
      clear et6 eσ7 he9
      refine lv_icmp_ne (tgt := 1319) hx hb dL_law_1247 (by decide) (fun q9 => ?_) (fun q9 => ?_)
      · replace hrun := if_f q9 hrun
        refine lv_iconst (v := 0) hx hb dL_law_1319 (by decide) ?_
        exact absurd (Option.some.inj hrun) (by decide)
      · replace hrun := if_t q9 hrun
        refine lv_iload hx hb dL_law_1250 (lv_at hl 0 rfl) ?_
        refine lv_if_ne (tgt := 1259) hx hb dL_law_1252 (by decide) (fun q10 => ?_) (fun q10 => ?_)
        · replace hrun := if_f q10 hrun
          refine lv_iconst (v := 0) hx hb dL_law_1259 (by decide) ?_
          exact t_L_law_1260 C0 hAs k286 hk286 k305 hk305 k1111 hk1111 (fun x5 x6 x7 x8 x9 x12 x17 x18 x19 w_bb w_m w_v σ => f_L_law_1215 (k_xL G) (k_xs G) k286 k305 k1111 n x5 x6 x7 x8 x9 x12 x17 x18 x19 w_bb w_m w_v σ) ih w8 x5 x6 x7 x8 x9 x12 x17 x18 x19 t3.1 (0 : Int32) w_bb w_m w_v σ7 _ _ _ hXW hP hD hS (lv_sub hl [1, 2, 3, 4, 5, 6, 7, 8, 9, 10, 11, 12, 13, 0] rfl) hrun
        · replace hrun := if_t q10 hrun
          refine lv_iconst (v := 1) hx hb dL_law_1255 (by decide) ?_
          refine lv_goto (tgt := 1260) hx hb dL_law_1256 (by decide) ?_
          exact t_L_law_1260 C0 hAs k286 hk286 k305 hk305 k1111 hk1111 (fun x5 x6 x7 x8 x9 x12 x17 x18 x19 w_bb w_m w_v σ => f_L_law_1215 (k_xL G) (k_xs G) k286 k305 k1111 n x5 x6 x7 x8 x9 x12 x17 x18 x19 w_bb w_m w_v σ) ih w8 x5 x6 x7 x8 x9 x12 x17 x18 x19 t3.1 (1 : Int32) w_bb w_m w_v σ7 _ _ _ hXW hP hD hS (lv_sub hl [1, 2, 3, 4, 5, 6, 7, 8, 9, 10, 11, 12, 13, 0] rfl) hrun
set_option maxHeartbeats 4000000 in
set_option maxRecDepth 100000 in
theorem t_L_law_1212 {l : Launch} {G : k_G} {p : Program} {e : Env} {s : State} {m : MethodId} {b : Nat} {below : List Frame} {meth : Method} {c : Code} {A : Nat → Prop} {h_bb h_m h_v h_o : Nat} (C0 : k_C G p s m #[Value.ref b] meth c A code RL lw_tbl 21 (some .boolean) meth.name) (hAs : ∀ q, A q → s.heap.size ≤ q) (k286 : Int32 → (Nat → Int32) → (Nat → Int32) → (Nat → Int32) → k_SB → Option (Int32)) (hk286 : ∀ (w : va_W) (x5 : Int32) (w_bb : Nat → Int32) (w_m : Nat → Int32) (w_v : Nat → Int32) (σ : k_SB) (H : Heap) (locs : List Loc) (ls : Array Slot), XW G h_o σ w → va_P G.1 vwCl ([(h_bb, .inl (k_cI G, 21, .inl w_bb)), (h_m, .inl (k_cI G, 7, .inl w_m)), (h_v, .inl (k_cI G, 4, .inl w_v))] ++ w) H → va_D A ([(h_bb, .inl (k_cI G, 21, .inl w_bb)), (h_m, .inl (k_cI G, 7, .inl w_m)), (h_v, .inl (k_cI G, 4, .inl w_v))] ++ w) → va_S A s.heap H locs → lv_has ls 21 [(0, .ref (k_xB G)), (1, .ref h_o), (3, .ref h_bb), (4, .ref h_v), (5, .int x5)] → k286 x5 w_bb w_m w_v σ = some (1 : Int32) → W p l e room_1 s m #[Value.ref b] below meth c H locs 44 13141 (lw_Z below #[Value.ref b] s) (F0 m 286 ls [])) (k305 : Int32 → Int32 → Int32 → (Nat → Int32) → (Nat → Int32) → (Nat → Int32) → k_SB → Option (Int32)) (hk305 : ∀ (w : va_W) (x5 : Int32) (x6 : Int32) (x7 : Int32) (w_bb : Nat → Int32) (w_m : Nat → Int32) (w_v : Nat → Int32) (σ : k_SB) (H : Heap) (locs : List Loc) (ls : Array Slot), XW G h_o σ w → va_P G.1 vwCl ([(h_bb, .inl (k_cI G, 21, .inl w_bb)), (h_m, .inl (k_cI G, 7, .inl w_m)), (h_v, .inl (k_cI G, 4, .inl w_v))] ++ w) H → va_D A ([(h_bb, .inl (k_cI G, 21, .inl w_bb)), (h_m, .inl (k_cI G, 7, .inl w_m)), (h_v, .inl (k_cI G, 4, .inl w_v))] ++ w) → va_S A s.heap H locs → lv_has ls 21 [(0, .ref (k_xB G)), (1, .ref h_o), (3, .ref h_bb), (4, .ref h_v), (5, .int x5), (6, .int x6), (7, .int x7)] → k305 x5 x6 x7 w_bb w_m w_v σ = some (1 : Int32) → W p l e room_1 s m #[Value.ref b] below meth c H locs 44 13141 (lw_Z below #[Value.ref b] s) (F0 m 305 ls [])) (k1111 : Int32 → Int32 → Int32 → Int32 → Int32 → Int32 → Int32 → (Nat → Int32) → (Nat → Int32) → (Nat → Int32) → k_SB → Option (Int32)) (hk1111 : ∀ (w : va_W) (x5 : Int32) (x6 : Int32) (x7 : Int32) (x8 : Int32) (x9 : Int32) (x12 : Int32) (x17 : Int32) (w_bb : Nat → Int32) (w_m : Nat → Int32) (w_v : Nat → Int32) (σ : k_SB) (H : Heap) (locs : List Loc) (ls : Array Slot), XW G h_o σ w → va_P G.1 vwCl ([(h_bb, .inl (k_cI G, 21, .inl w_bb)), (h_m, .inl (k_cI G, 7, .inl w_m)), (h_v, .inl (k_cI G, 4, .inl w_v))] ++ w) H → va_D A ([(h_bb, .inl (k_cI G, 21, .inl w_bb)), (h_m, .inl (k_cI G, 7, .inl w_m)), (h_v, .inl (k_cI G, 4, .inl w_v))] ++ w) → va_S A s.heap H locs → lv_has ls 21 [(0, .ref (k_xB G)), (1, .ref h_o), (3, .ref h_bb), (4, .ref h_v), (5, .int x5), (6, .int x6), (7, .int x7), (8, .int x8), (9, .int x9), (12, .int x12), (17, .int x17)] → k1111 x5 x6 x7 x8 x9 x12 x17 w_bb w_m w_v σ = some (1 : Int32) → W p l e room_1 s m #[Value.ref b] below meth c H locs 44 13141 (lw_Z below #[Value.ref b] s) (F0 m 1111 ls [])) : ∀ (w : va_W) (x5 : Int32) (x6 : Int32) (x7 : Int32) (x8 : Int32) (x9 : Int32) (x12 : Int32) (x17 : Int32) (x18 : Int32) (w_bb : Nat → Int32) (w_m : Nat → Int32) (w_v : Nat → Int32) (σ : k_SB) (H : Heap) (locs : List Loc) (ls : Array Slot), XW G h_o σ w → va_P G.1 vwCl ([(h_bb, .inl (k_cI G, 21, .inl w_bb)), (h_m, .inl (k_cI G, 7, .inl w_m)), (h_v, .inl (k_cI G, 4, .inl w_v))] ++ w) H → va_D A ([(h_bb, .inl (k_cI G, 21, .inl w_bb)), (h_m, .inl (k_cI G, 7, .inl w_m)), (h_v, .inl (k_cI G, 4, .inl w_v))] ++ w) → va_S A s.heap H locs → lv_has ls 21 [(0, .ref (k_xB G)), (1, .ref h_o), (3, .ref h_bb), (4, .ref h_v), (5, .int x5), (6, .int x6), (7, .int x7), (8, .int x8), (9, .int x9), (12, .int x12), (17, .int x17), (18, .int x18)] → f_L_law_1212 (k_xL G) (k_xs G) k286 k305 k1111 x5 x6 x7 x8 x9 x12 x17 x18 w_bb w_m w_v σ = some (1 : Int32) → W p l e room_1 s m #[Value.ref b] below meth c H locs 44 13141 (lw_Z below #[Value.ref b] s) (F0 m 1212 ls []) := by
  have hx := C0.1
  have hb := C0.2.1
  have hts := C0.2.2.2.1
  have hown := C0.2.2.2.2.1
  have hK := C0.2.2.2.2.2.2.2.2.1.1
  have hNW := C0.2.2.2.2.2.2.2.2.1.2.1
  have hSF := C0.2.2.2.2.2.2.2.2.1.2.2
  intro w x5 x6 x7 x8 x9 x12 x17 x18 w_bb w_m w_v σ H locs ls hXW hP hD hS hl hrun
  rw [f_L_law_1212] at hrun
  refine lv_iconst (v := 0) hx hb dL_law_1212 (by decide) ?_
  refine lv_istore (lv' := [(19, .int (0 : Int32)), (0, .ref (k_xB G)), (1, .ref h_o), (3, .ref h_bb), (4, .ref h_v), (5, .int x5), (6, .int x6), (7, .int x7), (8, .int x8), (9, .int x9), (12, .int x12), (17, .int x17), (18, .int x18)]) hx hb dL_law_1213 hl (by decide) rfl (fun ls hl => ?_)
  exact t_L_law_1215 C0 hAs k286 hk286 k305 hk305 k1111 hk1111 kFU w x5 x6 x7 x8 x9 x12 x17 x18 (0 : Int32) w_bb w_m w_v σ _ _ _ hXW hP hD hS (lv_sub hl [1, 2, 3, 4, 5, 6, 7, 8, 9, 10, 11, 12, 0] rfl) hrun
set_option maxHeartbeats 4000000 in
set_option maxRecDepth 100000 in
theorem t_L_law_1455 {l : Launch} {G : k_G} {p : Program} {e : Env} {s : State} {m : MethodId} {b : Nat} {below : List Frame} {meth : Method} {c : Code} {A : Nat → Prop} {h_bb h_m h_v h_o : Nat} (C0 : k_C G p s m #[Value.ref b] meth c A code RL lw_tbl 21 (some .boolean) meth.name) (hAs : ∀ q, A q → s.heap.size ≤ q) (k286 : Int32 → (Nat → Int32) → (Nat → Int32) → (Nat → Int32) → k_SB → Option (Int32)) (hk286 : ∀ (w : va_W) (x5 : Int32) (w_bb : Nat → Int32) (w_m : Nat → Int32) (w_v : Nat → Int32) (σ : k_SB) (H : Heap) (locs : List Loc) (ls : Array Slot), XW G h_o σ w → va_P G.1 vwCl ([(h_bb, .inl (k_cI G, 21, .inl w_bb)), (h_m, .inl (k_cI G, 7, .inl w_m)), (h_v, .inl (k_cI G, 4, .inl w_v))] ++ w) H → va_D A ([(h_bb, .inl (k_cI G, 21, .inl w_bb)), (h_m, .inl (k_cI G, 7, .inl w_m)), (h_v, .inl (k_cI G, 4, .inl w_v))] ++ w) → va_S A s.heap H locs → lv_has ls 21 [(0, .ref (k_xB G)), (1, .ref h_o), (3, .ref h_bb), (4, .ref h_v), (5, .int x5)] → k286 x5 w_bb w_m w_v σ = some (1 : Int32) → W p l e room_1 s m #[Value.ref b] below meth c H locs 44 13141 (lw_Z below #[Value.ref b] s) (F0 m 286 ls [])) (k305 : Int32 → Int32 → Int32 → (Nat → Int32) → (Nat → Int32) → (Nat → Int32) → k_SB → Option (Int32)) (hk305 : ∀ (w : va_W) (x5 : Int32) (x6 : Int32) (x7 : Int32) (w_bb : Nat → Int32) (w_m : Nat → Int32) (w_v : Nat → Int32) (σ : k_SB) (H : Heap) (locs : List Loc) (ls : Array Slot), XW G h_o σ w → va_P G.1 vwCl ([(h_bb, .inl (k_cI G, 21, .inl w_bb)), (h_m, .inl (k_cI G, 7, .inl w_m)), (h_v, .inl (k_cI G, 4, .inl w_v))] ++ w) H → va_D A ([(h_bb, .inl (k_cI G, 21, .inl w_bb)), (h_m, .inl (k_cI G, 7, .inl w_m)), (h_v, .inl (k_cI G, 4, .inl w_v))] ++ w) → va_S A s.heap H locs → lv_has ls 21 [(0, .ref (k_xB G)), (1, .ref h_o), (3, .ref h_bb), (4, .ref h_v), (5, .int x5), (6, .int x6), (7, .int x7)] → k305 x5 x6 x7 w_bb w_m w_v σ = some (1 : Int32) → W p l e room_1 s m #[Value.ref b] below meth c H locs 44 13141 (lw_Z below #[Value.ref b] s) (F0 m 305 ls [])) (k1389 : Int32 → Int32 → Int32 → Int32 → Int32 → Int32 → (Nat → Int32) → (Nat → Int32) → (Nat → Int32) → k_SB → Option (Int32)) (hk1389 : ∀ (w : va_W) (x5 : Int32) (x6 : Int32) (x7 : Int32) (x8 : Int32) (x12 : Int32) (x17 : Int32) (w_bb : Nat → Int32) (w_m : Nat → Int32) (w_v : Nat → Int32) (σ : k_SB) (H : Heap) (locs : List Loc) (ls : Array Slot), XW G h_o σ w → va_P G.1 vwCl ([(h_bb, .inl (k_cI G, 21, .inl w_bb)), (h_m, .inl (k_cI G, 7, .inl w_m)), (h_v, .inl (k_cI G, 4, .inl w_v))] ++ w) H → va_D A ([(h_bb, .inl (k_cI G, 21, .inl w_bb)), (h_m, .inl (k_cI G, 7, .inl w_m)), (h_v, .inl (k_cI G, 4, .inl w_v))] ++ w) → va_S A s.heap H locs → lv_has ls 21 [(0, .ref (k_xB G)), (1, .ref h_o), (3, .ref h_bb), (4, .ref h_v), (5, .int x5), (6, .int x6), (7, .int x7), (8, .int x8), (12, .int x12), (17, .int x17)] → k1389 x5 x6 x7 x8 x12 x17 w_bb w_m w_v σ = some (1 : Int32) → W p l e room_1 s m #[Value.ref b] below meth c H locs 44 13141 (lw_Z below #[Value.ref b] s) (F0 m 1389 ls [])) : ∀ (w : va_W) (x5 : Int32) (x6 : Int32) (x7 : Int32) (x8 : Int32) (x12 : Int32) (x17 : Int32) (w_bb : Nat → Int32) (w_m : Nat → Int32) (w_v : Nat → Int32) (σ : k_SB) (H : Heap) (locs : List Loc) (ls : Array Slot), XW G h_o σ w → va_P G.1 vwCl ([(h_bb, .inl (k_cI G, 21, .inl w_bb)), (h_m, .inl (k_cI G, 7, .inl w_m)), (h_v, .inl (k_cI G, 4, .inl w_v))] ++ w) H → va_D A ([(h_bb, .inl (k_cI G, 21, .inl w_bb)), (h_m, .inl (k_cI G, 7, .inl w_m)), (h_v, .inl (k_cI G, 4, .inl w_v))] ++ w) → va_S A s.heap H locs → lv_has ls 21 [(0, .ref (k_xB G)), (1, .ref h_o), (3, .ref h_bb), (4, .ref h_v), (5, .int x5), (6, .int x6), (7, .int x7), (8, .int x8), (12, .int x12), (17, .int x17)] → f_L_law_1455 (k_xL G) (k_xs G) k286 k305 k1389 x5 x6 x7 x8 x12 x17 w_bb w_m w_v σ = some (1 : Int32) → W p l e room_1 s m #[Value.ref b] below meth c H locs 44 13141 (lw_Z below #[Value.ref b] s) (F0 m 1455 ls []) := by
  have hx := C0.1
  have hb := C0.2.1
  have hts := C0.2.2.2.1
  have hown := C0.2.2.2.2.1
  have hK := C0.2.2.2.2.2.2.2.2.1.1
  have hNW := C0.2.2.2.2.2.2.2.2.1.2.1
  have hSF := C0.2.2.2.2.2.2.2.2.1.2.2
  intro w x5 x6 x7 x8 x12 x17 w_bb w_m w_v σ H locs ls hXW hP hD hS hl hrun
  rw [f_L_law_1455] at hrun
  refine lv_iinc (v := x17 + 1) (lv' := [(17, .int (x17 + 1)), (0, .ref (k_xB G)), (1, .ref h_o), (3, .ref h_bb), (4, .ref h_v), (5, .int x5), (6, .int x6), (7, .int x7), (8, .int x8), (12, .int x12)]) hx hb dL_law_1455 hl (k := 9) rfl rfl (by decide) rfl (fun ls hl => ?_)
  refine lv_goto (tgt := 1389) hx hb dL_law_1458 (by decide) ?_
  exact hk1389 w x5 x6 x7 x8 x12 (x17 + 1) w_bb w_m w_v σ _ _ _ hXW hP hD hS (lv_sub hl [1, 2, 3, 4, 5, 6, 7, 8, 9, 0] rfl) hrun
set_option maxHeartbeats 4000000 in
set_option maxRecDepth 100000 in
theorem t_L_law_1389 {l : Launch} {G : k_G} {p : Program} {e : Env} {s : State} {m : MethodId} {b : Nat} {below : List Frame} {meth : Method} {c : Code} {A : Nat → Prop} {h_bb h_m h_v h_o : Nat} (C0 : k_C G p s m #[Value.ref b] meth c A code RL lw_tbl 21 (some .boolean) meth.name) (hAs : ∀ q, A q → s.heap.size ≤ q) (k286 : Int32 → (Nat → Int32) → (Nat → Int32) → (Nat → Int32) → k_SB → Option (Int32)) (hk286 : ∀ (w : va_W) (x5 : Int32) (w_bb : Nat → Int32) (w_m : Nat → Int32) (w_v : Nat → Int32) (σ : k_SB) (H : Heap) (locs : List Loc) (ls : Array Slot), XW G h_o σ w → va_P G.1 vwCl ([(h_bb, .inl (k_cI G, 21, .inl w_bb)), (h_m, .inl (k_cI G, 7, .inl w_m)), (h_v, .inl (k_cI G, 4, .inl w_v))] ++ w) H → va_D A ([(h_bb, .inl (k_cI G, 21, .inl w_bb)), (h_m, .inl (k_cI G, 7, .inl w_m)), (h_v, .inl (k_cI G, 4, .inl w_v))] ++ w) → va_S A s.heap H locs → lv_has ls 21 [(0, .ref (k_xB G)), (1, .ref h_o), (3, .ref h_bb), (4, .ref h_v), (5, .int x5)] → k286 x5 w_bb w_m w_v σ = some (1 : Int32) → W p l e room_1 s m #[Value.ref b] below meth c H locs 44 13141 (lw_Z below #[Value.ref b] s) (F0 m 286 ls [])) (k305 : Int32 → Int32 → Int32 → (Nat → Int32) → (Nat → Int32) → (Nat → Int32) → k_SB → Option (Int32)) (hk305 : ∀ (w : va_W) (x5 : Int32) (x6 : Int32) (x7 : Int32) (w_bb : Nat → Int32) (w_m : Nat → Int32) (w_v : Nat → Int32) (σ : k_SB) (H : Heap) (locs : List Loc) (ls : Array Slot), XW G h_o σ w → va_P G.1 vwCl ([(h_bb, .inl (k_cI G, 21, .inl w_bb)), (h_m, .inl (k_cI G, 7, .inl w_m)), (h_v, .inl (k_cI G, 4, .inl w_v))] ++ w) H → va_D A ([(h_bb, .inl (k_cI G, 21, .inl w_bb)), (h_m, .inl (k_cI G, 7, .inl w_m)), (h_v, .inl (k_cI G, 4, .inl w_v))] ++ w) → va_S A s.heap H locs → lv_has ls 21 [(0, .ref (k_xB G)), (1, .ref h_o), (3, .ref h_bb), (4, .ref h_v), (5, .int x5), (6, .int x6), (7, .int x7)] → k305 x5 x6 x7 w_bb w_m w_v σ = some (1 : Int32) → W p l e room_1 s m #[Value.ref b] below meth c H locs 44 13141 (lw_Z below #[Value.ref b] s) (F0 m 305 ls [])) : ∀ (n : Nat) (w : va_W) (x5 : Int32) (x6 : Int32) (x7 : Int32) (x8 : Int32) (x12 : Int32) (x17 : Int32) (w_bb : Nat → Int32) (w_m : Nat → Int32) (w_v : Nat → Int32) (σ : k_SB) (H : Heap) (locs : List Loc) (ls : Array Slot), XW G h_o σ w → va_P G.1 vwCl ([(h_bb, .inl (k_cI G, 21, .inl w_bb)), (h_m, .inl (k_cI G, 7, .inl w_m)), (h_v, .inl (k_cI G, 4, .inl w_v))] ++ w) H → va_D A ([(h_bb, .inl (k_cI G, 21, .inl w_bb)), (h_m, .inl (k_cI G, 7, .inl w_m)), (h_v, .inl (k_cI G, 4, .inl w_v))] ++ w) → va_S A s.heap H locs → lv_has ls 21 [(0, .ref (k_xB G)), (1, .ref h_o), (3, .ref h_bb), (4, .ref h_v), (5, .int x5), (6, .int x6), (7, .int x7), (8, .int x8), (12, .int x12), (17, .int x17)] → f_L_law_1389 (k_xL G) (k_xs G) k286 k305 n x5 x6 x7 x8 x12 x17 w_bb w_m w_v σ = some (1 : Int32) → W p l e room_1 s m #[Value.ref b] below meth c H locs 44 13141 (lw_Z below #[Value.ref b] s) (F0 m 1389 ls []) := by
  have hx := C0.1
  have hb := C0.2.1
  have hts := C0.2.2.2.1
  have hown := C0.2.2.2.2.1
  have hK := C0.2.2.2.2.2.2.2.2.1.1
  have hNW := C0.2.2.2.2.2.2.2.2.1.2.1
  have hSF := C0.2.2.2.2.2.2.2.2.1.2.2
  intro n
  induction n with
  | zero =>
    intro w x5 x6 x7 x8 x12 x17 w_bb w_m w_v σ H locs ls hXW hP hD hS hl hrun
    rw [f_L_law_1389] at hrun
    cases hrun
  | succ n ih =>
    intro w x5 x6 x7 x8 x12 x17 w_bb w_m w_v σ H locs ls hXW hP hD hS hl hrun
    rw [f_L_law_1389] at hrun
    refine lv_iload hx hb dL_law_1389 (lv_at hl 9 rfl) ?_
    refine lv_aload_n hx hb dL_law_1391 rfl (lv_at hl 2 rfl) ?_
    refine lv_iconst (v := 4) hx hb dL_law_1392 (by decide) ?_
    obtain ⟨gz1, hrun⟩ := gd_inv hrun
    refine va_iald hx hb hK hP 0 1 rfl rfl gz1 dL_law_1393 ?_
    refine lv_icmp_ge (tgt := 1461) hx hb dL_law_1394 (by decide) (fun q2 => ?_) (fun q2 => ?_)
    · replace hrun := if_t q2 hrun
      refine lv_iinc (v := x7 + 1) (lv' := [(7, .int (x7 + 1)), (0, .ref (k_xB G)), (1, .ref h_o), (3, .ref h_bb), (4, .ref h_v), (5, .int x5), (6, .int x6), (8, .int x8), (12, .int x12), (17, .int x17)]) hx hb dL_law_1461 hl (k := 6) rfl rfl (by decide) rfl (fun ls hl => ?_)
      refine lv_goto (tgt := 305) hx hb dL_law_1464 (by decide) ?_
      exact hk305 w x5 x6 (x7 + 1) w_bb w_m w_v σ _ _ _ hXW hP hD hS (lv_sub hl [1, 2, 3, 4, 5, 6, 0] rfl) hrun
    · replace hrun := if_f q2 hrun
      refine lv_aload_n hx hb dL_law_1397 rfl (lv_at hl 1 rfl) ?_
      refine lv_iload hx hb dL_law_1398 (lv_at hl 9 rfl) ?_
      refine lv_iconst (v := 0) hx hb dL_law_1400 (by decide) ?_
      obtain ⟨t3, et3, hrun⟩ := bd_inv hrun
      obtain ⟨σ4, eσ4, hrun⟩ := lt_inv hrun
      obtain ⟨fs9, he9⟩ := XW_head hXW
      refine lw_callVi (wr := [(h_bb, .inl (k_cI G, 21, .inl w_bb)), (h_m, .inl (k_cI G, 7, .inl w_m)), (h_v, .inl (k_cI G, 4, .inl w_v))]) (rest := []) C0 (lx_stack hXW et3 H.size) (cwV 2 hts gL_law_X11_stack rfl rfl rfl e_X11_stack ⟨Nat.le_of_ble_eq_true rfl, Nat.le_of_ble_eq_true rfl⟩) hP hD hS rfl rfl he9 rfl hl.1 rfl (Nat.le_of_ble_eq_true rfl) dL_law_1401 ⟨Nat.le_of_ble_eq_true rfl, Nat.le_of_ble_eq_true rfl⟩ (fun w5 H locs hXW hP hD hS => ?_)
      replace hXW : XW G h_o σ4 w5 := by rw [eσ4]; exact hXW
      clear et3 eσ4 he9
      refine lv_iload hx hb dL_law_1404 (lv_at hl 7 rfl) ?_
      refine lv_icmp_eq (tgt := 1412) hx hb dL_law_1406 (by decide) (fun q6 => ?_) (fun q6 => ?_)
      · replace hrun := if_t q6 hrun
        refine lv_aload_n hx hb dL_law_1412 rfl (lv_at hl 1 rfl) ?_
        refine lv_iload hx hb dL_law_1413 (lv_at hl 6 rfl) ?_
        refine lv_iload hx hb dL_law_1415 (lv_at hl 9 rfl) ?_
        obtain ⟨t7, et7, hrun⟩ := bd_inv hrun
        obtain ⟨σ8, eσ8, hrun⟩ := lt_inv hrun
        obtain ⟨fs9, he9⟩ := XW_head hXW
        refine lw_callVi (wr := [(h_bb, .inl (k_cI G, 21, .inl w_bb)), (h_m, .inl (k_cI G, 7, .inl w_m)), (h_v, .inl (k_cI G, 4, .inl w_v))]) (rest := []) C0 (lx_pass hXW et7 H.size) (cwV 2 hts gL_law_X11_pass rfl rfl rfl e_X11_pass ⟨Nat.le_of_ble_eq_true rfl, Nat.le_of_ble_eq_true rfl⟩) hP hD hS rfl rfl he9 rfl hl.1 rfl (Nat.le_of_ble_eq_true rfl) dL_law_1417 ⟨Nat.le_of_ble_eq_true rfl, Nat.le_of_ble_eq_true rfl⟩ (fun w9 H locs hXW hP hD hS => ?_)
        replace hXW : XW G h_o σ8 w9 := by rw [eσ8]; exact hXW
        clear et7 eσ8 he9
        refine lv_istore (lv' := [(18, .int t7.1), (0, .ref (k_xB G)), (1, .ref h_o), (3, .ref h_bb), (4, .ref h_v), (5, .int x5), (6, .int x6), (7, .int x7), (8, .int x8), (12, .int x12), (17, .int x17)]) hx hb dL_law_1420 hl (by decide) rfl (fun ls hl => ?_)
        refine lv_iload hx hb dL_law_1422 (lv_at hl 0 rfl) ?_
        refine lv_aload_n hx hb dL_law_1424 rfl (lv_at hl 2 rfl) ?_
        refine lv_iload hx hb dL_law_1425 (lv_at hl 10 rfl) ?_
        refine lv_iload hx hb dL_law_1427 (lv_at hl 7 rfl) ?_
        obtain ⟨t10, et10, hrun⟩ := bd_inv hrun
        obtain ⟨σ11, eσ11, hrun⟩ := lt_inv hrun
        obtain ⟨fs9, he9⟩ := XW_head hXW
        refine lw_callVi (wr := [(h_bb, .inl (k_cI G, 21, .inl w_bb)), (h_m, .inl (k_cI G, 7, .inl w_m)), (h_v, .inl (k_cI G, 4, .inl w_v))]) (rest := [.int t7.1]) C0 (lx_pass hXW et10 H.size) (cwV 2 hts gL_law_X11_pass rfl rfl rfl e_X11_pass ⟨Nat.le_of_ble_eq_true rfl, Nat.le_of_ble_eq_true rfl⟩) hP hD hS rfl rfl he9 rfl hl.1 rfl (Nat.le_of_ble_eq_true rfl) dL_law_1429 ⟨Nat.le_of_ble_eq_true rfl, Nat.le_of_ble_eq_true rfl⟩ (fun w12 H locs hXW hP hD hS => ?_)
        replace hXW : XW G h_o σ11 w12 := by rw [eσ11]; exact hXW
        clear et10 eσ11 he9
        refine lv_icmp_ne (tgt := 1453) hx hb dL_law_1432 (by decide) (fun q13 => ?_) (fun q13 => ?_)
        · replace hrun := if_f q13 hrun
          refine lv_iconst (v := 0) hx hb dL_law_1453 (by decide) ?_
          exact absurd (Option.some.inj hrun) (by decide)
        · replace hrun := if_t q13 hrun
          refine lv_iload hx hb dL_law_1435 (lv_at hl 0 rfl) ?_
          refine lv_iload hx hb dL_law_1437 (lv_at hl 9 rfl) ?_
          refine lv_icmp_lt (tgt := 1453) hx hb dL_law_1439 (by decide) (fun q14 => ?_) (fun q14 => ?_)
          · replace hrun := if_t q14 hrun
            refine lv_iconst (v := 0) hx hb dL_law_1453 (by decide) ?_
            exact absurd (Option.some.inj hrun) (by decide)
          · replace hrun := if_f q14 hrun
            refine lv_iload hx hb dL_law_1442 (lv_at hl 0 rfl) ?_
            refine lv_aload_n hx hb dL_law_1444 rfl (lv_at hl 2 rfl) ?_
            refine lv_iload hx hb dL_law_1445 (lv_at hl 10 rfl) ?_
            obtain ⟨t15, et15, hrun⟩ := bd_inv hrun
            obtain ⟨σ16, eσ16, hrun⟩ := lt_inv hrun
            obtain ⟨fs9, he9⟩ := XW_head hXW
            refine lw_callVi (wr := [(h_bb, .inl (k_cI G, 21, .inl w_bb)), (h_m, .inl (k_cI G, 7, .inl w_m)), (h_v, .inl (k_cI G, 4, .inl w_v))]) (rest := [.int t7.1]) C0 (lx_energy hXW et15 H.size) (cwV 1 hts gL_law_X11_energy rfl rfl rfl e_X11_energy ⟨Nat.le_of_ble_eq_true rfl, Nat.le_of_ble_eq_true rfl⟩) hP hD hS rfl rfl he9 rfl hl.1 rfl (Nat.le_of_ble_eq_true rfl) dL_law_1447 ⟨Nat.le_of_ble_eq_true rfl, Nat.le_of_ble_eq_true rfl⟩ (fun w17 H locs hXW hP hD hS => ?_)
            replace hXW : XW G h_o σ16 w17 := by rw [eσ16]; exact hXW
            clear et15 eσ16 he9
            refine lv_icmp_ge (tgt := 1455) hx hb dL_law_1450 (by decide) (fun q18 => ?_) (fun q18 => ?_)
            · replace hrun := if_t q18 hrun
              exact t_L_law_1455 C0 hAs k286 hk286 k305 hk305 (fun x5 x6 x7 x8 x12 x17 w_bb w_m w_v σ => f_L_law_1389 (k_xL G) (k_xs G) k286 k305 n x5 x6 x7 x8 x12 x17 w_bb w_m w_v σ) ih w17 x5 x6 x7 x8 x12 x17 w_bb w_m w_v σ16 _ _ _ hXW hP hD hS (lv_sub hl [1, 2, 3, 4, 5, 6, 7, 8, 9, 10] rfl) hrun
            · replace hrun := if_f q18 hrun
              refine lv_iconst (v := 0) hx hb dL_law_1453 (by decide) ?_
              exact absurd (Option.some.inj hrun) (by decide)
      · replace hrun := if_f q6 hrun
        refine lv_goto (tgt := 1455) hx hb dL_law_1409 (by decide) ?_
        exact t_L_law_1455 C0 hAs k286 hk286 k305 hk305 (fun x5 x6 x7 x8 x12 x17 w_bb w_m w_v σ => f_L_law_1389 (k_xL G) (k_xs G) k286 k305 n x5 x6 x7 x8 x12 x17 w_bb w_m w_v σ) ih w5 x5 x6 x7 x8 x12 x17 w_bb w_m w_v σ4 _ _ _ hXW hP hD hS hl hrun
set_option maxHeartbeats 4000000 in
set_option maxRecDepth 100000 in
theorem t_L_law_1111 {l : Launch} {G : k_G} {p : Program} {e : Env} {s : State} {m : MethodId} {b : Nat} {below : List Frame} {meth : Method} {c : Code} {A : Nat → Prop} {h_bb h_m h_v h_o : Nat} (C0 : k_C G p s m #[Value.ref b] meth c A code RL lw_tbl 21 (some .boolean) meth.name) (hAs : ∀ q, A q → s.heap.size ≤ q) (k286 : Int32 → (Nat → Int32) → (Nat → Int32) → (Nat → Int32) → k_SB → Option (Int32)) (hk286 : ∀ (w : va_W) (x5 : Int32) (w_bb : Nat → Int32) (w_m : Nat → Int32) (w_v : Nat → Int32) (σ : k_SB) (H : Heap) (locs : List Loc) (ls : Array Slot), XW G h_o σ w → va_P G.1 vwCl ([(h_bb, .inl (k_cI G, 21, .inl w_bb)), (h_m, .inl (k_cI G, 7, .inl w_m)), (h_v, .inl (k_cI G, 4, .inl w_v))] ++ w) H → va_D A ([(h_bb, .inl (k_cI G, 21, .inl w_bb)), (h_m, .inl (k_cI G, 7, .inl w_m)), (h_v, .inl (k_cI G, 4, .inl w_v))] ++ w) → va_S A s.heap H locs → lv_has ls 21 [(0, .ref (k_xB G)), (1, .ref h_o), (3, .ref h_bb), (4, .ref h_v), (5, .int x5)] → k286 x5 w_bb w_m w_v σ = some (1 : Int32) → W p l e room_1 s m #[Value.ref b] below meth c H locs 44 13141 (lw_Z below #[Value.ref b] s) (F0 m 286 ls [])) (k305 : Int32 → Int32 → Int32 → (Nat → Int32) → (Nat → Int32) → (Nat → Int32) → k_SB → Option (Int32)) (hk305 : ∀ (w : va_W) (x5 : Int32) (x6 : Int32) (x7 : Int32) (w_bb : Nat → Int32) (w_m : Nat → Int32) (w_v : Nat → Int32) (σ : k_SB) (H : Heap) (locs : List Loc) (ls : Array Slot), XW G h_o σ w → va_P G.1 vwCl ([(h_bb, .inl (k_cI G, 21, .inl w_bb)), (h_m, .inl (k_cI G, 7, .inl w_m)), (h_v, .inl (k_cI G, 4, .inl w_v))] ++ w) H → va_D A ([(h_bb, .inl (k_cI G, 21, .inl w_bb)), (h_m, .inl (k_cI G, 7, .inl w_m)), (h_v, .inl (k_cI G, 4, .inl w_v))] ++ w) → va_S A s.heap H locs → lv_has ls 21 [(0, .ref (k_xB G)), (1, .ref h_o), (3, .ref h_bb), (4, .ref h_v), (5, .int x5), (6, .int x6), (7, .int x7)] → k305 x5 x6 x7 w_bb w_m w_v σ = some (1 : Int32) → W p l e room_1 s m #[Value.ref b] below meth c H locs 44 13141 (lw_Z below #[Value.ref b] s) (F0 m 305 ls [])) : ∀ (n : Nat) (w : va_W) (x5 : Int32) (x6 : Int32) (x7 : Int32) (x8 : Int32) (x9 : Int32) (x12 : Int32) (x17 : Int32) (w_bb : Nat → Int32) (w_m : Nat → Int32) (w_v : Nat → Int32) (σ : k_SB) (H : Heap) (locs : List Loc) (ls : Array Slot), XW G h_o σ w → va_P G.1 vwCl ([(h_bb, .inl (k_cI G, 21, .inl w_bb)), (h_m, .inl (k_cI G, 7, .inl w_m)), (h_v, .inl (k_cI G, 4, .inl w_v))] ++ w) H → va_D A ([(h_bb, .inl (k_cI G, 21, .inl w_bb)), (h_m, .inl (k_cI G, 7, .inl w_m)), (h_v, .inl (k_cI G, 4, .inl w_v))] ++ w) → va_S A s.heap H locs → lv_has ls 21 [(0, .ref (k_xB G)), (1, .ref h_o), (3, .ref h_bb), (4, .ref h_v), (5, .int x5), (6, .int x6), (7, .int x7), (8, .int x8), (9, .int x9), (12, .int x12), (17, .int x17)] → f_L_law_1111 (k_xL G) (k_xs G) k286 k305 n x5 x6 x7 x8 x9 x12 x17 w_bb w_m w_v σ = some (1 : Int32) → W p l e room_1 s m #[Value.ref b] below meth c H locs 44 13141 (lw_Z below #[Value.ref b] s) (F0 m 1111 ls []) := by
  have hx := C0.1
  have hb := C0.2.1
  have hts := C0.2.2.2.1
  have hown := C0.2.2.2.2.1
  have hK := C0.2.2.2.2.2.2.2.2.1.1
  have hNW := C0.2.2.2.2.2.2.2.2.1.2.1
  have hSF := C0.2.2.2.2.2.2.2.2.1.2.2
  intro n
  induction n with
  | zero =>
    intro w x5 x6 x7 x8 x9 x12 x17 w_bb w_m w_v σ H locs ls hXW hP hD hS hl hrun
    rw [f_L_law_1111] at hrun
    cases hrun
  | succ n ih =>
    intro w x5 x6 x7 x8 x9 x12 x17 w_bb w_m w_v σ H locs ls hXW hP hD hS hl hrun
    rw [f_L_law_1111] at hrun
    refine lv_iload hx hb dL_law_1111 (lv_at hl 10 rfl) ?_
    refine lv_iconst (v := 4) hx hb dL_law_1113 (by decide) ?_
    refine lv_icmp_ge (tgt := 1386) hx hb dL_law_1114 (by decide) (fun q1 => ?_) (fun q1 => ?_)
    · replace hrun := if_t q1 hrun
      refine lv_iconst (v := 0) hx hb dL_law_1386 (by decide) ?_
      refine lv_istore (lv' := [(17, .int (0 : Int32)), (0, .ref (k_xB G)), (1, .ref h_o), (3, .ref h_bb), (4, .ref h_v), (5, .int x5), (6, .int x6), (7, .int x7), (8, .int x8), (9, .int x9), (12, .int x12)]) hx hb dL_law_1387 hl (by decide) rfl (fun ls hl => ?_)
      exact t_L_law_1389 C0 hAs k286 hk286 k305 hk305 kFU w x5 x6 x7 x8 x12 (0 : Int32) w_bb w_m w_v σ _ _ _ hXW hP hD hS (lv_sub hl [1, 2, 3, 4, 5, 6, 7, 8, 10, 0] rfl) hrun
    · replace hrun := if_f q1 hrun
      refine lv_aload_n hx hb dL_law_1117 rfl (lv_at hl 1 rfl) ?_
      refine lv_iload hx hb dL_law_1118 (lv_at hl 6 rfl) ?_
      refine lv_iload hx hb dL_law_1120 (lv_at hl 10 rfl) ?_
      obtain ⟨t2, et2, hrun⟩ := bd_inv hrun
      obtain ⟨σ3, eσ3, hrun⟩ := lt_inv hrun
      obtain ⟨fs9, he9⟩ := XW_head hXW
      refine lw_callVi (wr := [(h_bb, .inl (k_cI G, 21, .inl w_bb)), (h_m, .inl (k_cI G, 7, .inl w_m)), (h_v, .inl (k_cI G, 4, .inl w_v))]) (rest := []) C0 (lx_least hXW et2 H.size) (cwV 2 hts gL_law_X11_least rfl rfl rfl e_X11_least ⟨Nat.le_of_ble_eq_true rfl, Nat.le_of_ble_eq_true rfl⟩) hP hD hS rfl rfl he9 rfl hl.1 rfl (Nat.le_of_ble_eq_true rfl) dL_law_1122 ⟨Nat.le_of_ble_eq_true rfl, Nat.le_of_ble_eq_true rfl⟩ (fun w4 H locs hXW hP hD hS => ?_)
      replace hXW : XW G h_o σ3 w4 := by rw [eσ3]; exact hXW
      clear et2 eσ3 he9
      refine lv_istore (lv' := [(18, .int t2.1), (0, .ref (k_xB G)), (1, .ref h_o), (3, .ref h_bb), (4, .ref h_v), (5, .int x5), (6, .int x6), (7, .int x7), (8, .int x8), (9, .int x9), (12, .int x12), (17, .int x17)]) hx hb dL_law_1125 hl (by decide) rfl (fun ls hl => ?_)
      refine lv_iload hx hb dL_law_1127 (lv_at hl 0 rfl) ?_
      refine lv_iload hx hb dL_law_1129 (lv_at hl 9 rfl) ?_
      refine lv_icmp_gt (tgt := 1210) hx hb dL_law_1131 (by decide) (fun q5 => ?_) (fun q5 => ?_)
      · replace hrun := if_t q5 hrun
        refine lv_iconst (v := 0) hx hb dL_law_1210 (by decide) ?_
        exact absurd (Option.some.inj hrun) (by decide)
      · replace hrun := if_f q5 hrun
        refine lv_aload_n hx hb dL_law_1134 rfl (lv_at hl 3 rfl) ?_
        refine lv_iload hx hb dL_law_1135 (lv_at hl 8 rfl) ?_
        refine lv_iload hx hb dL_law_1137 (lv_at hl 0 rfl) ?_
        obtain ⟨t6, et6, hrun⟩ := bd_inv hrun
        have hpm : List.Perm ([(h_bb, .inl (k_cI G, 21, .inl w_bb)), (h_m, .inl (k_cI G, 7, .inl w_m)), (h_v, .inl (k_cI G, 4, .inl w_v))] ++ w4) (([(h_m, .inl (k_cI G, 7, .inl w_m)), (h_v, .inl (k_cI G, 4, .inl w_v))] ++ w4) ++ [(h_bb, .inl (k_cI G, 21, .inl w_bb))]) := (List.Perm.trans (List.Perm.trans (List.Perm.swap _ _ _) (List.Perm.cons _ (List.Perm.swap _ _ _))) (List.Perm.cons _ (List.Perm.cons _ (k_psn _ _))))
        refine lw_callSi (wr := ([(h_m, .inl (k_cI G, 7, .inl w_m)), (h_v, .inl (k_cI G, 4, .inl w_v))] ++ w4)) (wc := [(h_bb, .inl (k_cI G, 21, .inl w_bb))]) (rest := []) C0 (cd_L_energy et6 H.size) (va_cwS 3 hts gL_law_L_energy rfl rfl rfl e_L_energy.2 ⟨Nat.le_of_ble_eq_true rfl, Nat.le_of_ble_eq_true rfl⟩) (k_permP hP hpm) (k_permD hD hpm) hS rfl hl.1 rfl (Nat.le_of_ble_eq_true rfl) dL_law_1139 ⟨Nat.le_of_ble_eq_true rfl, Nat.le_of_ble_eq_true rfl⟩ (fun u9 H locs hu9 hP hD hS => ?_)
        obtain rfl := hu9
        replace hP : va_P G.1 vwCl ([(h_bb, .inl (k_cI G, 21, .inl w_bb)), (h_m, .inl (k_cI G, 7, .inl w_m)), (h_v, .inl (k_cI G, 4, .inl w_v))] ++ w4) H := k_permP hP hpm.symm
        replace hD : va_D A ([(h_bb, .inl (k_cI G, 21, .inl w_bb)), (h_m, .inl (k_cI G, 7, .inl w_m)), (h_v, .inl (k_cI G, 4, .inl w_v))] ++ w4) := k_permD hD hpm.symm
        clear hpm et6
        refine lv_iload hx hb dL_law_1142 (lv_at hl 10 rfl) ?_
        refine lv_icmp_ne (tgt := 1210) hx hb dL_law_1144 (by decide) (fun q8 => ?_) (fun q8 => ?_)
        · replace hrun := if_f q8 hrun
          refine lv_iconst (v := 0) hx hb dL_law_1210 (by decide) ?_
          exact absurd (Option.some.inj hrun) (by decide)
        · replace hrun := if_t q8 hrun
          refine lv_aload_n hx hb dL_law_1147 rfl (lv_at hl 2 rfl) ?_
          refine lv_iload hx hb dL_law_1148 (lv_at hl 7 rfl) ?_
          refine lv_iload hx hb dL_law_1150 (lv_at hl 11 rfl) ?_
          obtain ⟨t9, et9, hrun⟩ := bd_inv hrun
          obtain ⟨σ10, eσ10, hrun⟩ := lt_inv hrun
          obtain ⟨fs9, he9⟩ := XW_head hXW
          refine lw_callVi (wr := [(h_bb, .inl (k_cI G, 21, .inl w_bb)), (h_m, .inl (k_cI G, 7, .inl w_m)), (h_v, .inl (k_cI G, 4, .inl w_v))]) (rest := []) C0 (lx_manyAlike hXW et9 H.size) (cwV 2 hts gL_law_X11_manyAlike rfl rfl rfl e_X11_manyAlike ⟨Nat.le_of_ble_eq_true rfl, Nat.le_of_ble_eq_true rfl⟩) hP hD hS rfl rfl he9 rfl hl.1 rfl (Nat.le_of_ble_eq_true rfl) dL_law_1152 ⟨Nat.le_of_ble_eq_true rfl, Nat.le_of_ble_eq_true rfl⟩ (fun w11 H locs hXW hP hD hS => ?_)
          replace hXW : XW G h_o σ10 w11 := by rw [eσ10]; exact hXW
          clear et9 eσ10 he9
          refine lv_iconst (v := 4) hx hb dL_law_1155 (by decide) ?_
          refine lv_iload hx hb dL_law_1156 (lv_at hl 8 rfl) ?_
          refine lv_imul hx hb dL_law_1158 ?_
          refine lv_icmp_gt (tgt := 1210) hx hb dL_law_1159 (by decide) (fun q12 => ?_) (fun q12 => ?_)
          · replace hrun := if_t q12 hrun
            refine lv_iconst (v := 0) hx hb dL_law_1210 (by decide) ?_
            exact absurd (Option.some.inj hrun) (by decide)
          · replace hrun := if_f q12 hrun
            refine lv_aload_n hx hb dL_law_1162 rfl (lv_at hl 2 rfl) ?_
            refine lv_iload hx hb dL_law_1163 (lv_at hl 7 rfl) ?_
            refine lv_iload hx hb dL_law_1165 (lv_at hl 7 rfl) ?_
            refine lv_iload hx hb dL_law_1167 (lv_at hl 11 rfl) ?_
            obtain ⟨t13, et13, hrun⟩ := bd_inv hrun
            obtain ⟨σ14, eσ14, hrun⟩ := lt_inv hrun
            obtain ⟨fs9, he9⟩ := XW_head hXW
            refine lw_callVi (wr := [(h_bb, .inl (k_cI G, 21, .inl w_bb)), (h_m, .inl (k_cI G, 7, .inl w_m)), (h_v, .inl (k_cI G, 4, .inl w_v))]) (rest := []) C0 (lx_alike hXW et13 H.size) (cwV 3 hts gL_law_X11_alike rfl rfl rfl e_X11_alike ⟨Nat.le_of_ble_eq_true rfl, Nat.le_of_ble_eq_true rfl⟩) hP hD hS rfl rfl he9 rfl hl.1 rfl (Nat.le_of_ble_eq_true rfl) dL_law_1169 ⟨Nat.le_of_ble_eq_true rfl, Nat.le_of_ble_eq_true rfl⟩ (fun w15 H locs hXW hP hD hS => ?_)
            replace hXW : XW G h_o σ14 w15 := by rw [eσ14]; exact hXW
            clear et13 eσ14 he9
            refine lv_iconst (v := 1) hx hb dL_law_1172 (by decide) ?_
            refine lv_icmp_ne (tgt := 1210) hx hb dL_law_1173 (by decide) (fun q16 => ?_) (fun q16 => ?_)
            · replace hrun := if_f q16 hrun
              refine lv_iconst (v := 0) hx hb dL_law_1210 (by decide) ?_
              exact absurd (Option.some.inj hrun) (by decide)
            · replace hrun := if_t q16 hrun
              refine lv_iload hx hb dL_law_1176 (lv_at hl 0 rfl) ?_
              refine lv_aload_n hx hb dL_law_1178 rfl (lv_at hl 2 rfl) ?_
              refine lv_iload hx hb dL_law_1179 (lv_at hl 7 rfl) ?_
              refine lv_iconst (v := 0) hx hb dL_law_1181 (by decide) ?_
              obtain ⟨t17, et17, hrun⟩ := bd_inv hrun
              obtain ⟨σ18, eσ18, hrun⟩ := lt_inv hrun
              obtain ⟨fs9, he9⟩ := XW_head hXW
              refine lw_callVi (wr := [(h_bb, .inl (k_cI G, 21, .inl w_bb)), (h_m, .inl (k_cI G, 7, .inl w_m)), (h_v, .inl (k_cI G, 4, .inl w_v))]) (rest := [.int t2.1]) C0 (lx_least hXW et17 H.size) (cwV 2 hts gL_law_X11_least rfl rfl rfl e_X11_least ⟨Nat.le_of_ble_eq_true rfl, Nat.le_of_ble_eq_true rfl⟩) hP hD hS rfl rfl he9 rfl hl.1 rfl (Nat.le_of_ble_eq_true rfl) dL_law_1182 ⟨Nat.le_of_ble_eq_true rfl, Nat.le_of_ble_eq_true rfl⟩ (fun w19 H locs hXW hP hD hS => ?_)
              replace hXW : XW G h_o σ18 w19 := by rw [eσ18]; exact hXW
              clear et17 eσ18 he9
              refine lv_icmp_gt (tgt := 1210) hx hb dL_law_1185 (by decide) (fun q20 => ?_) (fun q20 => ?_)
              · replace hrun := if_t q20 hrun
                refine lv_iconst (v := 0) hx hb dL_law_1210 (by decide) ?_
                exact absurd (Option.some.inj hrun) (by decide)
              · replace hrun := if_f q20 hrun
                refine lv_iload hx hb dL_law_1188 (lv_at hl 11 rfl) ?_
                refine lv_if_ne (tgt := 1212) hx hb dL_law_1190 (by decide) (fun q21 => ?_) (fun q21 => ?_)
                · replace hrun := if_f q21 hrun
                  exact t_L_law_1212 C0 hAs k286 hk286 k305 hk305 (fun x5 x6 x7 x8 x9 x12 x17 w_bb w_m w_v σ => f_L_law_1111 (k_xL G) (k_xs G) k286 k305 n x5 x6 x7 x8 x9 x12 x17 w_bb w_m w_v σ) ih w19 x5 x6 x7 x8 x9 x12 x17 t2.1 w_bb w_m w_v σ18 _ _ _ hXW hP hD hS (lv_sub hl [1, 2, 3, 4, 5, 6, 7, 8, 9, 10, 11, 0] rfl) hrun
                · replace hrun := if_t q21 hrun
                  refine lv_aload_n hx hb dL_law_1193 rfl (lv_at hl 2 rfl) ?_
                  refine lv_iload hx hb dL_law_1194 (lv_at hl 7 rfl) ?_
                  refine lv_iconst (v := 0) hx hb dL_law_1196 (by decide) ?_
                  obtain ⟨t22, et22, hrun⟩ := bd_inv hrun
                  obtain ⟨σ23, eσ23, hrun⟩ := lt_inv hrun
                  obtain ⟨fs9, he9⟩ := XW_head hXW
                  refine lw_callVi (wr := [(h_bb, .inl (k_cI G, 21, .inl w_bb)), (h_m, .inl (k_cI G, 7, .inl w_m)), (h_v, .inl (k_cI G, 4, .inl w_v))]) (rest := []) C0 (lx_manyAlike hXW et22 H.size) (cwV 2 hts gL_law_X11_manyAlike rfl rfl rfl e_X11_manyAlike ⟨Nat.le_of_ble_eq_true rfl, Nat.le_of_ble_eq_true rfl⟩) hP hD hS rfl rfl he9 rfl hl.1 rfl (Nat.le_of_ble_eq_true rfl) dL_law_1197 ⟨Nat.le_of_ble_eq_true rfl, Nat.le_of_ble_eq_true rfl⟩ (fun w24 H locs hXW hP hD hS => ?_)
                  replace hXW : XW G h_o σ23 w24 := by rw [eσ23]; exact hXW
                  clear et22 eσ23 he9
                  refine lv_aload_n hx hb dL_law_1200 rfl (lv_at hl 2 rfl) ?_
                  refine lv_iload hx hb dL_law_1201 (lv_at hl 7 rfl) ?_
                  refine lv_iconst (v := 3) hx hb dL_law_1203 (by decide) ?_
                  obtain ⟨t25, et25, hrun⟩ := bd_inv hrun
                  obtain ⟨σ26, eσ26, hrun⟩ := lt_inv hrun
                  obtain ⟨fs9, he9⟩ := XW_head hXW
                  refine lw_callVi (wr := [(h_bb, .inl (k_cI G, 21, .inl w_bb)), (h_m, .inl (k_cI G, 7, .inl w_m)), (h_v, .inl (k_cI G, 4, .inl w_v))]) (rest := [.int t22.1]) C0 (lx_stack hXW et25 H.size) (cwV 2 hts gL_law_X11_stack rfl rfl rfl e_X11_stack ⟨Nat.le_of_ble_eq_true rfl, Nat.le_of_ble_eq_true rfl⟩) hP hD hS rfl rfl he9 rfl hl.1 rfl (Nat.le_of_ble_eq_true rfl) dL_law_1204 ⟨Nat.le_of_ble_eq_true rfl, Nat.le_of_ble_eq_true rfl⟩ (fun w27 H locs hXW hP hD hS => ?_)
                  replace hXW : XW G h_o σ26 w27 := by rw [eσ26]; exact hXW
                  clear et25 eσ26 he9
                  refine lv_icmp_eq (tgt := 1212) hx hb dL_law_1207 (by decide) (fun q28 => ?_) (fun q28 => ?_)
                  · replace hrun := if_t q28 hrun
                    exact t_L_law_1212 C0 hAs k286 hk286 k305 hk305 (fun x5 x6 x7 x8 x9 x12 x17 w_bb w_m w_v σ => f_L_law_1111 (k_xL G) (k_xs G) k286 k305 n x5 x6 x7 x8 x9 x12 x17 w_bb w_m w_v σ) ih w27 x5 x6 x7 x8 x9 x12 x17 t2.1 w_bb w_m w_v σ26 _ _ _ hXW hP hD hS (lv_sub hl [1, 2, 3, 4, 5, 6, 7, 8, 9, 10, 11, 0] rfl) hrun
                  · replace hrun := if_f q28 hrun
                    refine lv_iconst (v := 0) hx hb dL_law_1210 (by decide) ?_
                    exact absurd (Option.some.inj hrun) (by decide)
set_option maxHeartbeats 4000000 in
set_option maxRecDepth 100000 in
theorem t_L_law_1020 {l : Launch} {G : k_G} {p : Program} {e : Env} {s : State} {m : MethodId} {b : Nat} {below : List Frame} {meth : Method} {c : Code} {A : Nat → Prop} {h_bb h_m h_v h_o : Nat} (C0 : k_C G p s m #[Value.ref b] meth c A code RL lw_tbl 21 (some .boolean) meth.name) (hAs : ∀ q, A q → s.heap.size ≤ q) (k286 : Int32 → (Nat → Int32) → (Nat → Int32) → (Nat → Int32) → k_SB → Option (Int32)) (hk286 : ∀ (w : va_W) (x5 : Int32) (w_bb : Nat → Int32) (w_m : Nat → Int32) (w_v : Nat → Int32) (σ : k_SB) (H : Heap) (locs : List Loc) (ls : Array Slot), XW G h_o σ w → va_P G.1 vwCl ([(h_bb, .inl (k_cI G, 21, .inl w_bb)), (h_m, .inl (k_cI G, 7, .inl w_m)), (h_v, .inl (k_cI G, 4, .inl w_v))] ++ w) H → va_D A ([(h_bb, .inl (k_cI G, 21, .inl w_bb)), (h_m, .inl (k_cI G, 7, .inl w_m)), (h_v, .inl (k_cI G, 4, .inl w_v))] ++ w) → va_S A s.heap H locs → lv_has ls 21 [(0, .ref (k_xB G)), (1, .ref h_o), (3, .ref h_bb), (4, .ref h_v), (5, .int x5)] → k286 x5 w_bb w_m w_v σ = some (1 : Int32) → W p l e room_1 s m #[Value.ref b] below meth c H locs 44 13141 (lw_Z below #[Value.ref b] s) (F0 m 286 ls [])) (k305 : Int32 → Int32 → Int32 → (Nat → Int32) → (Nat → Int32) → (Nat → Int32) → k_SB → Option (Int32)) (hk305 : ∀ (w : va_W) (x5 : Int32) (x6 : Int32) (x7 : Int32) (w_bb : Nat → Int32) (w_m : Nat → Int32) (w_v : Nat → Int32) (σ : k_SB) (H : Heap) (locs : List Loc) (ls : Array Slot), XW G h_o σ w → va_P G.1 vwCl ([(h_bb, .inl (k_cI G, 21, .inl w_bb)), (h_m, .inl (k_cI G, 7, .inl w_m)), (h_v, .inl (k_cI G, 4, .inl w_v))] ++ w) H → va_D A ([(h_bb, .inl (k_cI G, 21, .inl w_bb)), (h_m, .inl (k_cI G, 7, .inl w_m)), (h_v, .inl (k_cI G, 4, .inl w_v))] ++ w) → va_S A s.heap H locs → lv_has ls 21 [(0, .ref (k_xB G)), (1, .ref h_o), (3, .ref h_bb), (4, .ref h_v), (5, .int x5), (6, .int x6), (7, .int x7)] → k305 x5 x6 x7 w_bb w_m w_v σ = some (1 : Int32) → W p l e room_1 s m #[Value.ref b] below meth c H locs 44 13141 (lw_Z below #[Value.ref b] s) (F0 m 305 ls [])) : ∀ (n : Nat) (w : va_W) (x5 : Int32) (x6 : Int32) (x7 : Int32) (x8 : Int32) (x9 : Int32) (x12 : Int32) (x17 : Int32) (w_bb : Nat → Int32) (w_m : Nat → Int32) (w_v : Nat → Int32) (σ : k_SB) (H : Heap) (locs : List Loc) (ls : Array Slot), XW G h_o σ w → va_P G.1 vwCl ([(h_bb, .inl (k_cI G, 21, .inl w_bb)), (h_m, .inl (k_cI G, 7, .inl w_m)), (h_v, .inl (k_cI G, 4, .inl w_v))] ++ w) H → va_D A ([(h_bb, .inl (k_cI G, 21, .inl w_bb)), (h_m, .inl (k_cI G, 7, .inl w_m)), (h_v, .inl (k_cI G, 4, .inl w_v))] ++ w) → va_S A s.heap H locs → lv_has ls 21 [(0, .ref (k_xB G)), (1, .ref h_o), (3, .ref h_bb), (4, .ref h_v), (5, .int x5), (6, .int x6), (7, .int x7), (8, .int x8), (9, .int x9), (12, .int x12), (17, .int x17)] → f_L_law_1020 (k_xL G) (k_xs G) k286 k305 n x5 x6 x7 x8 x9 x12 x17 w_bb w_m w_v σ = some (1 : Int32) → W p l e room_1 s m #[Value.ref b] below meth c H locs 44 13141 (lw_Z below #[Value.ref b] s) (F0 m 1020 ls []) := by
  have hx := C0.1
  have hb := C0.2.1
  have hts := C0.2.2.2.1
  have hown := C0.2.2.2.2.1
  have hK := C0.2.2.2.2.2.2.2.2.1.1
  have hNW := C0.2.2.2.2.2.2.2.2.1.2.1
  have hSF := C0.2.2.2.2.2.2.2.2.1.2.2
  intro n
  induction n with
  | zero =>
    intro w x5 x6 x7 x8 x9 x12 x17 w_bb w_m w_v σ H locs ls hXW hP hD hS hl hrun
    rw [f_L_law_1020] at hrun
    cases hrun
  | succ n ih =>
    intro w x5 x6 x7 x8 x9 x12 x17 w_bb w_m w_v σ H locs ls hXW hP hD hS hl hrun
    rw [f_L_law_1020] at hrun
    refine lv_iload hx hb dL_law_1020 (lv_at hl 10 rfl) ?_
    refine lv_iload hx hb dL_law_1022 (lv_at hl 7 rfl) ?_
    refine lv_icmp_ge (tgt := 1058) hx hb dL_law_1024 (by decide) (fun q1 => ?_) (fun q1 => ?_)
    · replace hrun := if_t q1 hrun
      refine lv_aload_n hx hb dL_law_1058 rfl (lv_at hl 1 rfl) ?_
      refine lv_iload hx hb dL_law_1059 (lv_at hl 6 rfl) ?_
      refine lv_iload hx hb dL_law_1061 (lv_at hl 6 rfl) ?_
      obtain ⟨t2, et2, hrun⟩ := bd_inv hrun
      obtain ⟨σ3, eσ3, hrun⟩ := lt_inv hrun
      obtain ⟨fs9, he9⟩ := XW_head hXW
      refine lw_callVi (wr := [(h_bb, .inl (k_cI G, 21, .inl w_bb)), (h_m, .inl (k_cI G, 7, .inl w_m)), (h_v, .inl (k_cI G, 4, .inl w_v))]) (rest := []) C0 (lx_differs hXW et2 H.size) (cwV 2 hts gL_law_X11_differs rfl rfl rfl e_X11_differs ⟨Nat.le_of_ble_eq_true rfl, Nat.le_of_ble_eq_true rfl⟩) hP hD hS rfl rfl he9 rfl hl.1 rfl (Nat.le_of_ble_eq_true rfl) dL_law_1063 ⟨Nat.le_of_ble_eq_true rfl, Nat.le_of_ble_eq_true rfl⟩ (fun w4 H locs hXW hP hD hS => ?_)
      replace hXW : XW G h_o σ3 w4 := by rw [eσ3]; exact hXW
      clear et2 eσ3 he9
      refine lv_bipush (v := -2) hx hb dL_law_1066 (by decide) ?_
      refine lv_icmp_ne (tgt := 1106) hx hb dL_law_1068 (by decide) (fun q5 => ?_) (fun q5 => ?_)
      · replace hrun := if_f q5 hrun
        refine lv_iconst (v := 0) hx hb dL_law_1106 (by decide) ?_
        exact absurd (Option.some.inj hrun) (by decide)
      · replace hrun := if_t q5 hrun
        refine lv_aload_n hx hb dL_law_1071 rfl (lv_at hl 1 rfl) ?_
        refine lv_iload hx hb dL_law_1072 (lv_at hl 6 rfl) ?_
        refine lv_iload hx hb dL_law_1074 (lv_at hl 6 rfl) ?_
        obtain ⟨t6, et6, hrun⟩ := bd_inv hrun
        obtain ⟨σ7, eσ7, hrun⟩ := lt_inv hrun
        obtain ⟨fs9, he9⟩ := XW_head hXW
        refine lw_callVi (wr := [(h_bb, .inl (k_cI G, 21, .inl w_bb)), (h_m, .inl (k_cI G, 7, .inl w_m)), (h_v, .inl (k_cI G, 4, .inl w_v))]) (rest := []) C0 (lx_sameLines hXW et6 H.size) (cwV 2 hts gL_law_X11_sameLines rfl rfl rfl e_X11_sameLines ⟨Nat.le_of_ble_eq_true rfl, Nat.le_of_ble_eq_true rfl⟩) hP hD hS rfl rfl he9 rfl hl.1 rfl (Nat.le_of_ble_eq_true rfl) dL_law_1076 ⟨Nat.le_of_ble_eq_true rfl, Nat.le_of_ble_eq_true rfl⟩ (fun w8 H locs hXW hP hD hS => ?_)
        replace hXW : XW G h_o σ7 w8 := by rw [eσ7]; exact hXW
        clear et6 eσ7 he9
        refine lv_iconst (v := 1) hx hb dL_law_1079 (by decide) ?_
        refine lv_icmp_ne (tgt := 1106) hx hb dL_law_1080 (by decide) (fun q9 => ?_) (fun q9 => ?_)
        · replace hrun := if_f q9 hrun
          refine lv_iconst (v := 0) hx hb dL_law_1106 (by decide) ?_
          exact absurd (Option.some.inj hrun) (by decide)
        · replace hrun := if_t q9 hrun
          refine lv_aload_n hx hb dL_law_1083 rfl (lv_at hl 1 rfl) ?_
          refine lv_iload hx hb dL_law_1084 (lv_at hl 6 rfl) ?_
          refine lv_iload hx hb dL_law_1086 (lv_at hl 6 rfl) ?_
          obtain ⟨t10, et10, hrun⟩ := bd_inv hrun
          obtain ⟨σ11, eσ11, hrun⟩ := lt_inv hrun
          obtain ⟨fs9, he9⟩ := XW_head hXW
          refine lw_callVi (wr := [(h_bb, .inl (k_cI G, 21, .inl w_bb)), (h_m, .inl (k_cI G, 7, .inl w_m)), (h_v, .inl (k_cI G, 4, .inl w_v))]) (rest := []) C0 (lx_pass hXW et10 H.size) (cwV 2 hts gL_law_X11_pass rfl rfl rfl e_X11_pass ⟨Nat.le_of_ble_eq_true rfl, Nat.le_of_ble_eq_true rfl⟩) hP hD hS rfl rfl he9 rfl hl.1 rfl (Nat.le_of_ble_eq_true rfl) dL_law_1088 ⟨Nat.le_of_ble_eq_true rfl, Nat.le_of_ble_eq_true rfl⟩ (fun w12 H locs hXW hP hD hS => ?_)
          replace hXW : XW G h_o σ11 w12 := by rw [eσ11]; exact hXW
          clear et10 eσ11 he9
          refine lv_iload hx hb dL_law_1091 (lv_at hl 9 rfl) ?_
          refine lv_icmp_ne (tgt := 1106) hx hb dL_law_1093 (by decide) (fun q13 => ?_) (fun q13 => ?_)
          · replace hrun := if_f q13 hrun
            refine lv_iconst (v := 0) hx hb dL_law_1106 (by decide) ?_
            exact absurd (Option.some.inj hrun) (by decide)
          · replace hrun := if_t q13 hrun
            refine lv_aload_n hx hb dL_law_1096 rfl (lv_at hl 1 rfl) ?_
            refine lv_iload hx hb dL_law_1097 (lv_at hl 6 rfl) ?_
            obtain ⟨t14, et14, hrun⟩ := bd_inv hrun
            obtain ⟨σ15, eσ15, hrun⟩ := lt_inv hrun
            obtain ⟨fs9, he9⟩ := XW_head hXW
            refine lw_callVi (wr := [(h_bb, .inl (k_cI G, 21, .inl w_bb)), (h_m, .inl (k_cI G, 7, .inl w_m)), (h_v, .inl (k_cI G, 4, .inl w_v))]) (rest := []) C0 (lx_valley hXW et14 H.size) (cwV 1 hts gL_law_X11_valley rfl rfl rfl e_X11_valley ⟨Nat.le_of_ble_eq_true rfl, Nat.le_of_ble_eq_true rfl⟩) hP hD hS rfl rfl he9 rfl hl.1 rfl (Nat.le_of_ble_eq_true rfl) dL_law_1099 ⟨Nat.le_of_ble_eq_true rfl, Nat.le_of_ble_eq_true rfl⟩ (fun w16 H locs hXW hP hD hS => ?_)
            replace hXW : XW G h_o σ15 w16 := by rw [eσ15]; exact hXW
            clear et14 eσ15 he9
            refine lv_iconst (v := 1) hx hb dL_law_1102 (by decide) ?_
            refine lv_icmp_ge (tgt := 1108) hx hb dL_law_1103 (by decide) (fun q17 => ?_) (fun q17 => ?_)
            · replace hrun := if_t q17 hrun
              refine lv_iconst (v := 0) hx hb dL_law_1108 (by decide) ?_
              refine lv_istore (lv' := [(17, .int (0 : Int32)), (0, .ref (k_xB G)), (1, .ref h_o), (3, .ref h_bb), (4, .ref h_v), (5, .int x5), (6, .int x6), (7, .int x7), (8, .int x8), (9, .int x9), (12, .int x12)]) hx hb dL_law_1109 hl (by decide) rfl (fun ls hl => ?_)
              exact t_L_law_1111 C0 hAs k286 hk286 k305 hk305 kFU w16 x5 x6 x7 x8 x9 x12 (0 : Int32) w_bb w_m w_v σ15 _ _ _ hXW hP hD hS (lv_sub hl [1, 2, 3, 4, 5, 6, 7, 8, 9, 10, 0] rfl) hrun
            · replace hrun := if_f q17 hrun
              refine lv_iconst (v := 0) hx hb dL_law_1106 (by decide) ?_
              exact absurd (Option.some.inj hrun) (by decide)
    · replace hrun := if_f q1 hrun
      refine lv_aload_n hx hb dL_law_1027 rfl (lv_at hl 1 rfl) ?_
      refine lv_iload hx hb dL_law_1028 (lv_at hl 6 rfl) ?_
      refine lv_iload hx hb dL_law_1030 (lv_at hl 10 rfl) ?_
      obtain ⟨t18, et18, hrun⟩ := bd_inv hrun
      obtain ⟨σ19, eσ19, hrun⟩ := lt_inv hrun
      obtain ⟨fs9, he9⟩ := XW_head hXW
      refine lw_callVi (wr := [(h_bb, .inl (k_cI G, 21, .inl w_bb)), (h_m, .inl (k_cI G, 7, .inl w_m)), (h_v, .inl (k_cI G, 4, .inl w_v))]) (rest := []) C0 (lx_faultEnergy hXW et18 H.size) (cwV 2 hts gL_law_X11_faultEnergy rfl rfl rfl e_X11_faultEnergy ⟨Nat.le_of_ble_eq_true rfl, Nat.le_of_ble_eq_true rfl⟩) hP hD hS rfl rfl he9 rfl hl.1 rfl (Nat.le_of_ble_eq_true rfl) dL_law_1032 ⟨Nat.le_of_ble_eq_true rfl, Nat.le_of_ble_eq_true rfl⟩ (fun w20 H locs hXW hP hD hS => ?_)
      replace hXW : XW G h_o σ19 w20 := by rw [eσ19]; exact hXW
      clear et18 eσ19 he9
      refine lv_aload_n hx hb dL_law_1035 rfl (lv_at hl 1 rfl) ?_
      refine lv_iload hx hb dL_law_1036 (lv_at hl 6 rfl) ?_
      refine lv_aload_n hx hb dL_law_1038 rfl (lv_at hl 1 rfl) ?_
      refine lv_iload hx hb dL_law_1039 (lv_at hl 6 rfl) ?_
      obtain ⟨t21, et21, hrun⟩ := bd_inv hrun
      obtain ⟨σ22, eσ22, hrun⟩ := lt_inv hrun
      obtain ⟨fs9, he9⟩ := XW_head hXW
      refine lw_callVi (wr := [(h_bb, .inl (k_cI G, 21, .inl w_bb)), (h_m, .inl (k_cI G, 7, .inl w_m)), (h_v, .inl (k_cI G, 4, .inl w_v))]) (rest := [.int x7, .ref h_o, .int t18.1]) C0 (lx_bestFault hXW et21 H.size) (cwV 1 hts gL_law_X11_bestFault rfl rfl rfl e_X11_bestFault ⟨Nat.le_of_ble_eq_true rfl, Nat.le_of_ble_eq_true rfl⟩) hP hD hS rfl rfl he9 rfl hl.1 rfl (Nat.le_of_ble_eq_true rfl) dL_law_1041 ⟨Nat.le_of_ble_eq_true rfl, Nat.le_of_ble_eq_true rfl⟩ (fun w23 H locs hXW hP hD hS => ?_)
      replace hXW : XW G h_o σ22 w23 := by rw [eσ22]; exact hXW
      clear et21 eσ22 he9
      obtain ⟨t24, et24, hrun⟩ := bd_inv hrun
      obtain ⟨σ25, eσ25, hrun⟩ := lt_inv hrun
      obtain ⟨fs9, he9⟩ := XW_head hXW
      refine lw_callVi (wr := [(h_bb, .inl (k_cI G, 21, .inl w_bb)), (h_m, .inl (k_cI G, 7, .inl w_m)), (h_v, .inl (k_cI G, 4, .inl w_v))]) (rest := [.int t18.1]) C0 (lx_faultEnergy hXW et24 H.size) (cwV 2 hts gL_law_X11_faultEnergy rfl rfl rfl e_X11_faultEnergy ⟨Nat.le_of_ble_eq_true rfl, Nat.le_of_ble_eq_true rfl⟩) hP hD hS rfl rfl he9 rfl hl.1 rfl (Nat.le_of_ble_eq_true rfl) dL_law_1044 ⟨Nat.le_of_ble_eq_true rfl, Nat.le_of_ble_eq_true rfl⟩ (fun w26 H locs hXW hP hD hS => ?_)
      replace hXW : XW G h_o σ25 w26 := by rw [eσ25]; exact hXW
      clear et24 eσ25 he9
      refine lv_icmp_ge (tgt := 1052) hx hb dL_law_1047 (by decide) (fun q27 => ?_) (fun q27 => ?_)
      · replace hrun := if_t q27 hrun
        refine lv_iinc (v := x17 + 1) (lv' := [(17, .int (x17 + 1)), (0, .ref (k_xB G)), (1, .ref h_o), (3, .ref h_bb), (4, .ref h_v), (5, .int x5), (6, .int x6), (7, .int x7), (8, .int x8), (9, .int x9), (12, .int x12)]) hx hb dL_law_1052 hl (k := 10) rfl rfl (by decide) rfl (fun ls hl => ?_)
        refine lv_goto (tgt := 1020) hx hb dL_law_1055 (by decide) ?_
        exact ih w26 x5 x6 x7 x8 x9 x12 (x17 + 1) w_bb w_m w_v σ25 _ _ _ hXW hP hD hS (lv_sub hl [1, 2, 3, 4, 5, 6, 7, 8, 9, 10, 0] rfl) hrun
      · replace hrun := if_f q27 hrun
        refine lv_iconst (v := 0) hx hb dL_law_1050 (by decide) ?_
        exact absurd (Option.some.inj hrun) (by decide)
set_option maxHeartbeats 4000000 in
set_option maxRecDepth 100000 in
theorem t_L_law_957 {l : Launch} {G : k_G} {p : Program} {e : Env} {s : State} {m : MethodId} {b : Nat} {below : List Frame} {meth : Method} {c : Code} {A : Nat → Prop} {h_bb h_m h_v h_o : Nat} (C0 : k_C G p s m #[Value.ref b] meth c A code RL lw_tbl 21 (some .boolean) meth.name) (hAs : ∀ q, A q → s.heap.size ≤ q) (k286 : Int32 → (Nat → Int32) → (Nat → Int32) → (Nat → Int32) → k_SB → Option (Int32)) (hk286 : ∀ (w : va_W) (x5 : Int32) (w_bb : Nat → Int32) (w_m : Nat → Int32) (w_v : Nat → Int32) (σ : k_SB) (H : Heap) (locs : List Loc) (ls : Array Slot), XW G h_o σ w → va_P G.1 vwCl ([(h_bb, .inl (k_cI G, 21, .inl w_bb)), (h_m, .inl (k_cI G, 7, .inl w_m)), (h_v, .inl (k_cI G, 4, .inl w_v))] ++ w) H → va_D A ([(h_bb, .inl (k_cI G, 21, .inl w_bb)), (h_m, .inl (k_cI G, 7, .inl w_m)), (h_v, .inl (k_cI G, 4, .inl w_v))] ++ w) → va_S A s.heap H locs → lv_has ls 21 [(0, .ref (k_xB G)), (1, .ref h_o), (3, .ref h_bb), (4, .ref h_v), (5, .int x5)] → k286 x5 w_bb w_m w_v σ = some (1 : Int32) → W p l e room_1 s m #[Value.ref b] below meth c H locs 44 13141 (lw_Z below #[Value.ref b] s) (F0 m 286 ls [])) (k305 : Int32 → Int32 → Int32 → (Nat → Int32) → (Nat → Int32) → (Nat → Int32) → k_SB → Option (Int32)) (hk305 : ∀ (w : va_W) (x5 : Int32) (x6 : Int32) (x7 : Int32) (w_bb : Nat → Int32) (w_m : Nat → Int32) (w_v : Nat → Int32) (σ : k_SB) (H : Heap) (locs : List Loc) (ls : Array Slot), XW G h_o σ w → va_P G.1 vwCl ([(h_bb, .inl (k_cI G, 21, .inl w_bb)), (h_m, .inl (k_cI G, 7, .inl w_m)), (h_v, .inl (k_cI G, 4, .inl w_v))] ++ w) H → va_D A ([(h_bb, .inl (k_cI G, 21, .inl w_bb)), (h_m, .inl (k_cI G, 7, .inl w_m)), (h_v, .inl (k_cI G, 4, .inl w_v))] ++ w) → va_S A s.heap H locs → lv_has ls 21 [(0, .ref (k_xB G)), (1, .ref h_o), (3, .ref h_bb), (4, .ref h_v), (5, .int x5), (6, .int x6), (7, .int x7)] → k305 x5 x6 x7 w_bb w_m w_v σ = some (1 : Int32) → W p l e room_1 s m #[Value.ref b] below meth c H locs 44 13141 (lw_Z below #[Value.ref b] s) (F0 m 305 ls [])) : ∀ (n : Nat) (w : va_W) (x5 : Int32) (x6 : Int32) (x7 : Int32) (x8 : Int32) (x9 : Int32) (x12 : Int32) (x15 : Int32) (x17 : Int32) (w_bb : Nat → Int32) (w_m : Nat → Int32) (w_v : Nat → Int32) (σ : k_SB) (H : Heap) (locs : List Loc) (ls : Array Slot), XW G h_o σ w → va_P G.1 vwCl ([(h_bb, .inl (k_cI G, 21, .inl w_bb)), (h_m, .inl (k_cI G, 7, .inl w_m)), (h_v, .inl (k_cI G, 4, .inl w_v))] ++ w) H → va_D A ([(h_bb, .inl (k_cI G, 21, .inl w_bb)), (h_m, .inl (k_cI G, 7, .inl w_m)), (h_v, .inl (k_cI G, 4, .inl w_v))] ++ w) → va_S A s.heap H locs → lv_has ls 21 [(0, .ref (k_xB G)), (1, .ref h_o), (3, .ref h_bb), (4, .ref h_v), (5, .int x5), (6, .int x6), (7, .int x7), (8, .int x8), (9, .int x9), (12, .int x12), (15, .int x15), (17, .int x17)] → f_L_law_957 (k_xL G) (k_xs G) k286 k305 n x5 x6 x7 x8 x9 x12 x15 x17 w_bb w_m w_v σ = some (1 : Int32) → W p l e room_1 s m #[Value.ref b] below meth c H locs 44 13141 (lw_Z below #[Value.ref b] s) (F0 m 957 ls []) := by
  have hx := C0.1
  have hb := C0.2.1
  have hts := C0.2.2.2.1
  have hown := C0.2.2.2.2.1
  have hK := C0.2.2.2.2.2.2.2.2.1.1
  have hNW := C0.2.2.2.2.2.2.2.2.1.2.1
  have hSF := C0.2.2.2.2.2.2.2.2.1.2.2
  intro n
  induction n with
  | zero =>
    intro w x5 x6 x7 x8 x9 x12 x15 x17 w_bb w_m w_v σ H locs ls hXW hP hD hS hl hrun
    rw [f_L_law_957] at hrun
    cases hrun
  | succ n ih =>
    intro w x5 x6 x7 x8 x9 x12 x15 x17 w_bb w_m w_v σ H locs ls hXW hP hD hS hl hrun
    rw [f_L_law_957] at hrun
    refine lv_iload hx hb dL_law_957 (lv_at hl 11 rfl) ?_
    refine lv_iload hx hb dL_law_959 (lv_at hl 7 rfl) ?_
    refine lv_icmp_ge (tgt := 1017) hx hb dL_law_961 (by decide) (fun q1 => ?_) (fun q1 => ?_)
    · replace hrun := if_t q1 hrun
      refine lv_iconst (v := 1) hx hb dL_law_1017 (by decide) ?_
      refine lv_istore (lv' := [(17, .int (1 : Int32)), (0, .ref (k_xB G)), (1, .ref h_o), (3, .ref h_bb), (4, .ref h_v), (5, .int x5), (6, .int x6), (7, .int x7), (8, .int x8), (9, .int x9), (12, .int x12), (15, .int x15)]) hx hb dL_law_1018 hl (by decide) rfl (fun ls hl => ?_)
      exact t_L_law_1020 C0 hAs k286 hk286 k305 hk305 kFU w x5 x6 x7 x8 x9 x12 (1 : Int32) w_bb w_m w_v σ _ _ _ hXW hP hD hS (lv_sub hl [1, 2, 3, 4, 5, 6, 7, 8, 9, 10, 0] rfl) hrun
    · replace hrun := if_f q1 hrun
      refine lv_aload_n hx hb dL_law_964 rfl (lv_at hl 1 rfl) ?_
      refine lv_iload hx hb dL_law_965 (lv_at hl 6 rfl) ?_
      refine lv_iload hx hb dL_law_967 (lv_at hl 11 rfl) ?_
      obtain ⟨t2, et2, hrun⟩ := bd_inv hrun
      obtain ⟨σ3, eσ3, hrun⟩ := lt_inv hrun
      obtain ⟨fs9, he9⟩ := XW_head hXW
      refine lw_callVi (wr := [(h_bb, .inl (k_cI G, 21, .inl w_bb)), (h_m, .inl (k_cI G, 7, .inl w_m)), (h_v, .inl (k_cI G, 4, .inl w_v))]) (rest := []) C0 (lx_slipEnergy hXW et2 H.size) (cwV 2 hts gL_law_X11_slipEnergy rfl rfl rfl e_X11_slipEnergy ⟨Nat.le_of_ble_eq_true rfl, Nat.le_of_ble_eq_true rfl⟩) hP hD hS rfl rfl he9 rfl hl.1 rfl (Nat.le_of_ble_eq_true rfl) dL_law_969 ⟨Nat.le_of_ble_eq_true rfl, Nat.le_of_ble_eq_true rfl⟩ (fun w4 H locs hXW hP hD hS => ?_)
      replace hXW : XW G h_o σ3 w4 := by rw [eσ3]; exact hXW
      clear et2 eσ3 he9
      refine lv_aload_n hx hb dL_law_972 rfl (lv_at hl 1 rfl) ?_
      refine lv_iload hx hb dL_law_973 (lv_at hl 6 rfl) ?_
      refine lv_iload hx hb dL_law_975 (lv_at hl 10 rfl) ?_
      obtain ⟨t5, et5, hrun⟩ := bd_inv hrun
      obtain ⟨σ6, eσ6, hrun⟩ := lt_inv hrun
      obtain ⟨fs9, he9⟩ := XW_head hXW
      refine lw_callVi (wr := [(h_bb, .inl (k_cI G, 21, .inl w_bb)), (h_m, .inl (k_cI G, 7, .inl w_m)), (h_v, .inl (k_cI G, 4, .inl w_v))]) (rest := [.int t2.1]) C0 (lx_slipEnergy hXW et5 H.size) (cwV 2 hts gL_law_X11_slipEnergy rfl rfl rfl e_X11_slipEnergy ⟨Nat.le_of_ble_eq_true rfl, Nat.le_of_ble_eq_true rfl⟩) hP hD hS rfl rfl he9 rfl hl.1 rfl (Nat.le_of_ble_eq_true rfl) dL_law_977 ⟨Nat.le_of_ble_eq_true rfl, Nat.le_of_ble_eq_true rfl⟩ (fun w7 H locs hXW hP hD hS => ?_)
      replace hXW : XW G h_o σ6 w7 := by rw [eσ6]; exact hXW
      clear et5 eσ6 he9
      refine lv_icmp_lt (tgt := 1009) hx hb dL_law_980 (by decide) (fun q8 => ?_) (fun q8 => ?_)
      · replace hrun := if_t q8 hrun
        refine lv_iconst (v := 0) hx hb dL_law_1009 (by decide) ?_
        exact absurd (Option.some.inj hrun) (by decide)
      · replace hrun := if_f q8 hrun
        refine lv_iload hx hb dL_law_983 (lv_at hl 11 rfl) ?_
        refine lv_iload hx hb dL_law_985 (lv_at hl 10 rfl) ?_
        refine lv_icmp_ge (tgt := 1011) hx hb dL_law_987 (by decide) (fun q9 => ?_) (fun q9 => ?_)
        · replace hrun := if_t q9 hrun
          exact t_L_law_1011 C0 hAs k286 hk286 k305 hk305 (fun x5 x6 x7 x8 x9 x12 x15 x17 w_bb w_m w_v σ => f_L_law_957 (k_xL G) (k_xs G) k286 k305 n x5 x6 x7 x8 x9 x12 x15 x17 w_bb w_m w_v σ) ih w7 x5 x6 x7 x8 x9 x12 x15 x17 w_bb w_m w_v σ6 _ _ _ hXW hP hD hS hl hrun
        · replace hrun := if_f q9 hrun
          refine lv_aload_n hx hb dL_law_990 rfl (lv_at hl 1 rfl) ?_
          refine lv_iload hx hb dL_law_991 (lv_at hl 6 rfl) ?_
          refine lv_iload hx hb dL_law_993 (lv_at hl 11 rfl) ?_
          obtain ⟨t10, et10, hrun⟩ := bd_inv hrun
          obtain ⟨σ11, eσ11, hrun⟩ := lt_inv hrun
          obtain ⟨fs9, he9⟩ := XW_head hXW
          refine lw_callVi (wr := [(h_bb, .inl (k_cI G, 21, .inl w_bb)), (h_m, .inl (k_cI G, 7, .inl w_m)), (h_v, .inl (k_cI G, 4, .inl w_v))]) (rest := []) C0 (lx_slipEnergy hXW et10 H.size) (cwV 2 hts gL_law_X11_slipEnergy rfl rfl rfl e_X11_slipEnergy ⟨Nat.le_of_ble_eq_true rfl, Nat.le_of_ble_eq_true rfl⟩) hP hD hS rfl rfl he9 rfl hl.1 rfl (Nat.le_of_ble_eq_true rfl) dL_law_995 ⟨Nat.le_of_ble_eq_true rfl, Nat.le_of_ble_eq_true rfl⟩ (fun w12 H locs hXW hP hD hS => ?_)
          replace hXW : XW G h_o σ11 w12 := by rw [eσ11]; exact hXW
          clear et10 eσ11 he9
          refine lv_aload_n hx hb dL_law_998 rfl (lv_at hl 1 rfl) ?_
          refine lv_iload hx hb dL_law_999 (lv_at hl 6 rfl) ?_
          refine lv_iload hx hb dL_law_1001 (lv_at hl 10 rfl) ?_
          obtain ⟨t13, et13, hrun⟩ := bd_inv hrun
          obtain ⟨σ14, eσ14, hrun⟩ := lt_inv hrun
          obtain ⟨fs9, he9⟩ := XW_head hXW
          refine lw_callVi (wr := [(h_bb, .inl (k_cI G, 21, .inl w_bb)), (h_m, .inl (k_cI G, 7, .inl w_m)), (h_v, .inl (k_cI G, 4, .inl w_v))]) (rest := [.int t10.1]) C0 (lx_slipEnergy hXW et13 H.size) (cwV 2 hts gL_law_X11_slipEnergy rfl rfl rfl e_X11_slipEnergy ⟨Nat.le_of_ble_eq_true rfl, Nat.le_of_ble_eq_true rfl⟩) hP hD hS rfl rfl he9 rfl hl.1 rfl (Nat.le_of_ble_eq_true rfl) dL_law_1003 ⟨Nat.le_of_ble_eq_true rfl, Nat.le_of_ble_eq_true rfl⟩ (fun w15 H locs hXW hP hD hS => ?_)
          replace hXW : XW G h_o σ14 w15 := by rw [eσ14]; exact hXW
          clear et13 eσ14 he9
          refine lv_icmp_ne (tgt := 1011) hx hb dL_law_1006 (by decide) (fun q16 => ?_) (fun q16 => ?_)
          · replace hrun := if_f q16 hrun
            exact t_L_law_1011 C0 hAs k286 hk286 k305 hk305 (fun x5 x6 x7 x8 x9 x12 x15 x17 w_bb w_m w_v σ => f_L_law_957 (k_xL G) (k_xs G) k286 k305 n x5 x6 x7 x8 x9 x12 x15 x17 w_bb w_m w_v σ) ih w15 x5 x6 x7 x8 x9 x12 x15 x17 w_bb w_m w_v σ14 _ _ _ hXW hP hD hS hl hrun
          · replace hrun := if_t q16 hrun
            refine lv_iconst (v := 0) hx hb dL_law_1009 (by decide) ?_
            exact absurd (Option.some.inj hrun) (by decide)
set_option maxHeartbeats 4000000 in
set_option maxRecDepth 100000 in
theorem t_L_law_949 {l : Launch} {G : k_G} {p : Program} {e : Env} {s : State} {m : MethodId} {b : Nat} {below : List Frame} {meth : Method} {c : Code} {A : Nat → Prop} {h_bb h_m h_v h_o : Nat} (C0 : k_C G p s m #[Value.ref b] meth c A code RL lw_tbl 21 (some .boolean) meth.name) (hAs : ∀ q, A q → s.heap.size ≤ q) (k286 : Int32 → (Nat → Int32) → (Nat → Int32) → (Nat → Int32) → k_SB → Option (Int32)) (hk286 : ∀ (w : va_W) (x5 : Int32) (w_bb : Nat → Int32) (w_m : Nat → Int32) (w_v : Nat → Int32) (σ : k_SB) (H : Heap) (locs : List Loc) (ls : Array Slot), XW G h_o σ w → va_P G.1 vwCl ([(h_bb, .inl (k_cI G, 21, .inl w_bb)), (h_m, .inl (k_cI G, 7, .inl w_m)), (h_v, .inl (k_cI G, 4, .inl w_v))] ++ w) H → va_D A ([(h_bb, .inl (k_cI G, 21, .inl w_bb)), (h_m, .inl (k_cI G, 7, .inl w_m)), (h_v, .inl (k_cI G, 4, .inl w_v))] ++ w) → va_S A s.heap H locs → lv_has ls 21 [(0, .ref (k_xB G)), (1, .ref h_o), (3, .ref h_bb), (4, .ref h_v), (5, .int x5)] → k286 x5 w_bb w_m w_v σ = some (1 : Int32) → W p l e room_1 s m #[Value.ref b] below meth c H locs 44 13141 (lw_Z below #[Value.ref b] s) (F0 m 286 ls [])) (k305 : Int32 → Int32 → Int32 → (Nat → Int32) → (Nat → Int32) → (Nat → Int32) → k_SB → Option (Int32)) (hk305 : ∀ (w : va_W) (x5 : Int32) (x6 : Int32) (x7 : Int32) (w_bb : Nat → Int32) (w_m : Nat → Int32) (w_v : Nat → Int32) (σ : k_SB) (H : Heap) (locs : List Loc) (ls : Array Slot), XW G h_o σ w → va_P G.1 vwCl ([(h_bb, .inl (k_cI G, 21, .inl w_bb)), (h_m, .inl (k_cI G, 7, .inl w_m)), (h_v, .inl (k_cI G, 4, .inl w_v))] ++ w) H → va_D A ([(h_bb, .inl (k_cI G, 21, .inl w_bb)), (h_m, .inl (k_cI G, 7, .inl w_m)), (h_v, .inl (k_cI G, 4, .inl w_v))] ++ w) → va_S A s.heap H locs → lv_has ls 21 [(0, .ref (k_xB G)), (1, .ref h_o), (3, .ref h_bb), (4, .ref h_v), (5, .int x5), (6, .int x6), (7, .int x7)] → k305 x5 x6 x7 w_bb w_m w_v σ = some (1 : Int32) → W p l e room_1 s m #[Value.ref b] below meth c H locs 44 13141 (lw_Z below #[Value.ref b] s) (F0 m 305 ls [])) : ∀ (w : va_W) (x5 : Int32) (x6 : Int32) (x7 : Int32) (x8 : Int32) (x9 : Int32) (x12 : Int32) (x15 : Int32) (s0 : Int32) (s1 : Int32) (w_bb : Nat → Int32) (w_m : Nat → Int32) (w_v : Nat → Int32) (σ : k_SB) (H : Heap) (locs : List Loc) (ls : Array Slot), XW G h_o σ w → va_P G.1 vwCl ([(h_bb, .inl (k_cI G, 21, .inl w_bb)), (h_m, .inl (k_cI G, 7, .inl w_m)), (h_v, .inl (k_cI G, 4, .inl w_v))] ++ w) H → va_D A ([(h_bb, .inl (k_cI G, 21, .inl w_bb)), (h_m, .inl (k_cI G, 7, .inl w_m)), (h_v, .inl (k_cI G, 4, .inl w_v))] ++ w) → va_S A s.heap H locs → lv_has ls 21 [(0, .ref (k_xB G)), (1, .ref h_o), (3, .ref h_bb), (4, .ref h_v), (5, .int x5), (6, .int x6), (7, .int x7), (8, .int x8), (9, .int x9), (12, .int x12), (15, .int x15)] → f_L_law_949 (k_xL G) (k_xs G) k286 k305 x5 x6 x7 x8 x9 x12 x15 s0 s1 w_bb w_m w_v σ = some (1 : Int32) → W p l e room_1 s m #[Value.ref b] below meth c H locs 44 13141 (lw_Z below #[Value.ref b] s) (F0 m 949 ls [.int s1, .int s0]) := by
  have hx := C0.1
  have hb := C0.2.1
  have hts := C0.2.2.2.1
  have hown := C0.2.2.2.2.1
  have hK := C0.2.2.2.2.2.2.2.2.1.1
  have hNW := C0.2.2.2.2.2.2.2.2.1.2.1
  have hSF := C0.2.2.2.2.2.2.2.2.1.2.2
  intro w x5 x6 x7 x8 x9 x12 x15 s0 s1 w_bb w_m w_v σ H locs ls hXW hP hD hS hl hrun
  rw [f_L_law_949] at hrun
  refine lv_icmp_eq (tgt := 954) hx hb dL_law_949 (by decide) (fun q1 => ?_) (fun q1 => ?_)
  · replace hrun := if_t q1 hrun
    refine lv_iconst (v := 0) hx hb dL_law_954 (by decide) ?_
    refine lv_istore (lv' := [(17, .int (0 : Int32)), (0, .ref (k_xB G)), (1, .ref h_o), (3, .ref h_bb), (4, .ref h_v), (5, .int x5), (6, .int x6), (7, .int x7), (8, .int x8), (9, .int x9), (12, .int x12), (15, .int x15)]) hx hb dL_law_955 hl (by decide) rfl (fun ls hl => ?_)
    exact t_L_law_957 C0 hAs k286 hk286 k305 hk305 kFU w x5 x6 x7 x8 x9 x12 x15 (0 : Int32) w_bb w_m w_v σ _ _ _ hXW hP hD hS (lv_sub hl [1, 2, 3, 4, 5, 6, 7, 8, 9, 10, 11, 0] rfl) hrun
  · replace hrun := if_f q1 hrun
    refine lv_iconst (v := 0) hx hb dL_law_952 (by decide) ?_
    exact absurd (Option.some.inj hrun) (by decide)
set_option maxHeartbeats 4000000 in
set_option maxRecDepth 100000 in
theorem t_L_law_935 {l : Launch} {G : k_G} {p : Program} {e : Env} {s : State} {m : MethodId} {b : Nat} {below : List Frame} {meth : Method} {c : Code} {A : Nat → Prop} {h_bb h_m h_v h_o : Nat} (C0 : k_C G p s m #[Value.ref b] meth c A code RL lw_tbl 21 (some .boolean) meth.name) (hAs : ∀ q, A q → s.heap.size ≤ q) (k286 : Int32 → (Nat → Int32) → (Nat → Int32) → (Nat → Int32) → k_SB → Option (Int32)) (hk286 : ∀ (w : va_W) (x5 : Int32) (w_bb : Nat → Int32) (w_m : Nat → Int32) (w_v : Nat → Int32) (σ : k_SB) (H : Heap) (locs : List Loc) (ls : Array Slot), XW G h_o σ w → va_P G.1 vwCl ([(h_bb, .inl (k_cI G, 21, .inl w_bb)), (h_m, .inl (k_cI G, 7, .inl w_m)), (h_v, .inl (k_cI G, 4, .inl w_v))] ++ w) H → va_D A ([(h_bb, .inl (k_cI G, 21, .inl w_bb)), (h_m, .inl (k_cI G, 7, .inl w_m)), (h_v, .inl (k_cI G, 4, .inl w_v))] ++ w) → va_S A s.heap H locs → lv_has ls 21 [(0, .ref (k_xB G)), (1, .ref h_o), (3, .ref h_bb), (4, .ref h_v), (5, .int x5)] → k286 x5 w_bb w_m w_v σ = some (1 : Int32) → W p l e room_1 s m #[Value.ref b] below meth c H locs 44 13141 (lw_Z below #[Value.ref b] s) (F0 m 286 ls [])) (k305 : Int32 → Int32 → Int32 → (Nat → Int32) → (Nat → Int32) → (Nat → Int32) → k_SB → Option (Int32)) (hk305 : ∀ (w : va_W) (x5 : Int32) (x6 : Int32) (x7 : Int32) (w_bb : Nat → Int32) (w_m : Nat → Int32) (w_v : Nat → Int32) (σ : k_SB) (H : Heap) (locs : List Loc) (ls : Array Slot), XW G h_o σ w → va_P G.1 vwCl ([(h_bb, .inl (k_cI G, 21, .inl w_bb)), (h_m, .inl (k_cI G, 7, .inl w_m)), (h_v, .inl (k_cI G, 4, .inl w_v))] ++ w) H → va_D A ([(h_bb, .inl (k_cI G, 21, .inl w_bb)), (h_m, .inl (k_cI G, 7, .inl w_m)), (h_v, .inl (k_cI G, 4, .inl w_v))] ++ w) → va_S A s.heap H locs → lv_has ls 21 [(0, .ref (k_xB G)), (1, .ref h_o), (3, .ref h_bb), (4, .ref h_v), (5, .int x5), (6, .int x6), (7, .int x7)] → k305 x5 x6 x7 w_bb w_m w_v σ = some (1 : Int32) → W p l e room_1 s m #[Value.ref b] below meth c H locs 44 13141 (lw_Z below #[Value.ref b] s) (F0 m 305 ls [])) : ∀ (w : va_W) (x5 : Int32) (x6 : Int32) (x7 : Int32) (x8 : Int32) (x9 : Int32) (x12 : Int32) (x15 : Int32) (s0 : Int32) (w_bb : Nat → Int32) (w_m : Nat → Int32) (w_v : Nat → Int32) (σ : k_SB) (H : Heap) (locs : List Loc) (ls : Array Slot), XW G h_o σ w → va_P G.1 vwCl ([(h_bb, .inl (k_cI G, 21, .inl w_bb)), (h_m, .inl (k_cI G, 7, .inl w_m)), (h_v, .inl (k_cI G, 4, .inl w_v))] ++ w) H → va_D A ([(h_bb, .inl (k_cI G, 21, .inl w_bb)), (h_m, .inl (k_cI G, 7, .inl w_m)), (h_v, .inl (k_cI G, 4, .inl w_v))] ++ w) → va_S A s.heap H locs → lv_has ls 21 [(0, .ref (k_xB G)), (1, .ref h_o), (3, .ref h_bb), (4, .ref h_v), (5, .int x5), (6, .int x6), (7, .int x7), (8, .int x8), (9, .int x9), (12, .int x12), (15, .int x15)] → f_L_law_935 (k_xL G) (k_xs G) k286 k305 x5 x6 x7 x8 x9 x12 x15 s0 w_bb w_m w_v σ = some (1 : Int32) → W p l e room_1 s m #[Value.ref b] below meth c H locs 44 13141 (lw_Z below #[Value.ref b] s) (F0 m 935 ls [.int s0]) := by
  have hx := C0.1
  have hb := C0.2.1
  have hts := C0.2.2.2.1
  have hown := C0.2.2.2.2.1
  have hK := C0.2.2.2.2.2.2.2.2.1.1
  have hNW := C0.2.2.2.2.2.2.2.2.1.2.1
  have hSF := C0.2.2.2.2.2.2.2.2.1.2.2
  intro w x5 x6 x7 x8 x9 x12 x15 s0 w_bb w_m w_v σ H locs ls hXW hP hD hS hl hrun
  rw [f_L_law_935] at hrun
  refine lv_aload_n hx hb dL_law_935 rfl (lv_at hl 1 rfl) ?_
  refine lv_iload hx hb dL_law_936 (lv_at hl 6 rfl) ?_
  obtain ⟨t1, et1, hrun⟩ := bd_inv hrun
  obtain ⟨σ2, eσ2, hrun⟩ := lt_inv hrun
  obtain ⟨fs9, he9⟩ := XW_head hXW
  refine lw_callVi (wr := [(h_bb, .inl (k_cI G, 21, .inl w_bb)), (h_m, .inl (k_cI G, 7, .inl w_m)), (h_v, .inl (k_cI G, 4, .inl w_v))]) (rest := [.int s0]) C0 (lx_relax hXW et1 H.size) (cwV 1 hts gL_law_X11_relax rfl rfl rfl e_X11_relax ⟨Nat.le_of_ble_eq_true rfl, Nat.le_of_ble_eq_true rfl⟩) hP hD hS rfl rfl he9 rfl hl.1 rfl (Nat.le_of_ble_eq_true rfl) dL_law_938 ⟨Nat.le_of_ble_eq_true rfl, Nat.le_of_ble_eq_true rfl⟩ (fun w3 H locs hXW hP hD hS => ?_)
  replace hXW : XW G h_o σ2 w3 := by rw [eσ2]; exact hXW
  clear et1 eσ2 he9
  refine lv_if_ne (tgt := 948) hx hb dL_law_941 (by decide) (fun q4 => ?_) (fun q4 => ?_)
  · replace hrun := if_f q4 hrun
    refine lv_iconst (v := 0) hx hb dL_law_948 (by decide) ?_
    exact t_L_law_949 C0 hAs k286 hk286 k305 hk305 w3 x5 x6 x7 x8 x9 x12 x15 s0 (0 : Int32) w_bb w_m w_v σ2 _ _ _ hXW hP hD hS hl hrun
  · replace hrun := if_t q4 hrun
    refine lv_iconst (v := 1) hx hb dL_law_944 (by decide) ?_
    refine lv_goto (tgt := 949) hx hb dL_law_945 (by decide) ?_
    exact t_L_law_949 C0 hAs k286 hk286 k305 hk305 w3 x5 x6 x7 x8 x9 x12 x15 s0 (1 : Int32) w_bb w_m w_v σ2 _ _ _ hXW hP hD hS hl hrun
set_option maxHeartbeats 4000000 in
set_option maxRecDepth 100000 in
theorem t_L_law_920 {l : Launch} {G : k_G} {p : Program} {e : Env} {s : State} {m : MethodId} {b : Nat} {below : List Frame} {meth : Method} {c : Code} {A : Nat → Prop} {h_bb h_m h_v h_o : Nat} (C0 : k_C G p s m #[Value.ref b] meth c A code RL lw_tbl 21 (some .boolean) meth.name) (hAs : ∀ q, A q → s.heap.size ≤ q) (k286 : Int32 → (Nat → Int32) → (Nat → Int32) → (Nat → Int32) → k_SB → Option (Int32)) (hk286 : ∀ (w : va_W) (x5 : Int32) (w_bb : Nat → Int32) (w_m : Nat → Int32) (w_v : Nat → Int32) (σ : k_SB) (H : Heap) (locs : List Loc) (ls : Array Slot), XW G h_o σ w → va_P G.1 vwCl ([(h_bb, .inl (k_cI G, 21, .inl w_bb)), (h_m, .inl (k_cI G, 7, .inl w_m)), (h_v, .inl (k_cI G, 4, .inl w_v))] ++ w) H → va_D A ([(h_bb, .inl (k_cI G, 21, .inl w_bb)), (h_m, .inl (k_cI G, 7, .inl w_m)), (h_v, .inl (k_cI G, 4, .inl w_v))] ++ w) → va_S A s.heap H locs → lv_has ls 21 [(0, .ref (k_xB G)), (1, .ref h_o), (3, .ref h_bb), (4, .ref h_v), (5, .int x5)] → k286 x5 w_bb w_m w_v σ = some (1 : Int32) → W p l e room_1 s m #[Value.ref b] below meth c H locs 44 13141 (lw_Z below #[Value.ref b] s) (F0 m 286 ls [])) (k305 : Int32 → Int32 → Int32 → (Nat → Int32) → (Nat → Int32) → (Nat → Int32) → k_SB → Option (Int32)) (hk305 : ∀ (w : va_W) (x5 : Int32) (x6 : Int32) (x7 : Int32) (w_bb : Nat → Int32) (w_m : Nat → Int32) (w_v : Nat → Int32) (σ : k_SB) (H : Heap) (locs : List Loc) (ls : Array Slot), XW G h_o σ w → va_P G.1 vwCl ([(h_bb, .inl (k_cI G, 21, .inl w_bb)), (h_m, .inl (k_cI G, 7, .inl w_m)), (h_v, .inl (k_cI G, 4, .inl w_v))] ++ w) H → va_D A ([(h_bb, .inl (k_cI G, 21, .inl w_bb)), (h_m, .inl (k_cI G, 7, .inl w_m)), (h_v, .inl (k_cI G, 4, .inl w_v))] ++ w) → va_S A s.heap H locs → lv_has ls 21 [(0, .ref (k_xB G)), (1, .ref h_o), (3, .ref h_bb), (4, .ref h_v), (5, .int x5), (6, .int x6), (7, .int x7)] → k305 x5 x6 x7 w_bb w_m w_v σ = some (1 : Int32) → W p l e room_1 s m #[Value.ref b] below meth c H locs 44 13141 (lw_Z below #[Value.ref b] s) (F0 m 305 ls [])) : ∀ (w : va_W) (x5 : Int32) (x6 : Int32) (x7 : Int32) (x8 : Int32) (x9 : Int32) (x12 : Int32) (x15 : Int32) (x16 : Int32) (s0 : Int32) (s1 : Int32) (w_bb : Nat → Int32) (w_m : Nat → Int32) (w_v : Nat → Int32) (σ : k_SB) (H : Heap) (locs : List Loc) (ls : Array Slot), XW G h_o σ w → va_P G.1 vwCl ([(h_bb, .inl (k_cI G, 21, .inl w_bb)), (h_m, .inl (k_cI G, 7, .inl w_m)), (h_v, .inl (k_cI G, 4, .inl w_v))] ++ w) H → va_D A ([(h_bb, .inl (k_cI G, 21, .inl w_bb)), (h_m, .inl (k_cI G, 7, .inl w_m)), (h_v, .inl (k_cI G, 4, .inl w_v))] ++ w) → va_S A s.heap H locs → lv_has ls 21 [(0, .ref (k_xB G)), (1, .ref h_o), (3, .ref h_bb), (4, .ref h_v), (5, .int x5), (6, .int x6), (7, .int x7), (8, .int x8), (9, .int x9), (12, .int x12), (15, .int x15), (16, .int x16)] → f_L_law_920 (k_xL G) (k_xs G) k286 k305 x5 x6 x7 x8 x9 x12 x15 x16 s0 s1 w_bb w_m w_v σ = some (1 : Int32) → W p l e room_1 s m #[Value.ref b] below meth c H locs 44 13141 (lw_Z below #[Value.ref b] s) (F0 m 920 ls [.int s1, .int s0]) := by
  have hx := C0.1
  have hb := C0.2.1
  have hts := C0.2.2.2.1
  have hown := C0.2.2.2.2.1
  have hK := C0.2.2.2.2.2.2.2.2.1.1
  have hNW := C0.2.2.2.2.2.2.2.2.1.2.1
  have hSF := C0.2.2.2.2.2.2.2.2.1.2.2
  intro w x5 x6 x7 x8 x9 x12 x15 x16 s0 s1 w_bb w_m w_v σ H locs ls hXW hP hD hS hl hrun
  rw [f_L_law_920] at hrun
  refine lv_icmp_ne (tgt := 952) hx hb dL_law_920 (by decide) (fun q1 => ?_) (fun q1 => ?_)
  · replace hrun := if_f q1 hrun
    refine lv_iconst (v := 0) hx hb dL_law_952 (by decide) ?_
    exact absurd (Option.some.inj hrun) (by decide)
  · replace hrun := if_t q1 hrun
    refine lv_iload hx hb dL_law_923 (lv_at hl 11 rfl) ?_
    refine lv_iload hx hb dL_law_925 (lv_at hl 8 rfl) ?_
    refine lv_icmp_ne (tgt := 934) hx hb dL_law_927 (by decide) (fun q2 => ?_) (fun q2 => ?_)
    · replace hrun := if_f q2 hrun
      refine lv_iconst (v := 0) hx hb dL_law_934 (by decide) ?_
      exact t_L_law_935 C0 hAs k286 hk286 k305 hk305 w x5 x6 x7 x8 x9 x12 x15 (0 : Int32) w_bb w_m w_v σ _ _ _ hXW hP hD hS (lv_sub hl [0, 1, 2, 3, 4, 5, 6, 7, 8, 9, 10] rfl) hrun
    · replace hrun := if_t q2 hrun
      refine lv_iconst (v := 1) hx hb dL_law_930 (by decide) ?_
      refine lv_goto (tgt := 935) hx hb dL_law_931 (by decide) ?_
      exact t_L_law_935 C0 hAs k286 hk286 k305 hk305 w x5 x6 x7 x8 x9 x12 x15 (1 : Int32) w_bb w_m w_v σ _ _ _ hXW hP hD hS (lv_sub hl [0, 1, 2, 3, 4, 5, 6, 7, 8, 9, 10] rfl) hrun
set_option maxHeartbeats 4000000 in
set_option maxRecDepth 100000 in
theorem t_L_law_902 {l : Launch} {G : k_G} {p : Program} {e : Env} {s : State} {m : MethodId} {b : Nat} {below : List Frame} {meth : Method} {c : Code} {A : Nat → Prop} {h_bb h_m h_v h_o : Nat} (C0 : k_C G p s m #[Value.ref b] meth c A code RL lw_tbl 21 (some .boolean) meth.name) (hAs : ∀ q, A q → s.heap.size ≤ q) (k286 : Int32 → (Nat → Int32) → (Nat → Int32) → (Nat → Int32) → k_SB → Option (Int32)) (hk286 : ∀ (w : va_W) (x5 : Int32) (w_bb : Nat → Int32) (w_m : Nat → Int32) (w_v : Nat → Int32) (σ : k_SB) (H : Heap) (locs : List Loc) (ls : Array Slot), XW G h_o σ w → va_P G.1 vwCl ([(h_bb, .inl (k_cI G, 21, .inl w_bb)), (h_m, .inl (k_cI G, 7, .inl w_m)), (h_v, .inl (k_cI G, 4, .inl w_v))] ++ w) H → va_D A ([(h_bb, .inl (k_cI G, 21, .inl w_bb)), (h_m, .inl (k_cI G, 7, .inl w_m)), (h_v, .inl (k_cI G, 4, .inl w_v))] ++ w) → va_S A s.heap H locs → lv_has ls 21 [(0, .ref (k_xB G)), (1, .ref h_o), (3, .ref h_bb), (4, .ref h_v), (5, .int x5)] → k286 x5 w_bb w_m w_v σ = some (1 : Int32) → W p l e room_1 s m #[Value.ref b] below meth c H locs 44 13141 (lw_Z below #[Value.ref b] s) (F0 m 286 ls [])) (k305 : Int32 → Int32 → Int32 → (Nat → Int32) → (Nat → Int32) → (Nat → Int32) → k_SB → Option (Int32)) (hk305 : ∀ (w : va_W) (x5 : Int32) (x6 : Int32) (x7 : Int32) (w_bb : Nat → Int32) (w_m : Nat → Int32) (w_v : Nat → Int32) (σ : k_SB) (H : Heap) (locs : List Loc) (ls : Array Slot), XW G h_o σ w → va_P G.1 vwCl ([(h_bb, .inl (k_cI G, 21, .inl w_bb)), (h_m, .inl (k_cI G, 7, .inl w_m)), (h_v, .inl (k_cI G, 4, .inl w_v))] ++ w) H → va_D A ([(h_bb, .inl (k_cI G, 21, .inl w_bb)), (h_m, .inl (k_cI G, 7, .inl w_m)), (h_v, .inl (k_cI G, 4, .inl w_v))] ++ w) → va_S A s.heap H locs → lv_has ls 21 [(0, .ref (k_xB G)), (1, .ref h_o), (3, .ref h_bb), (4, .ref h_v), (5, .int x5), (6, .int x6), (7, .int x7)] → k305 x5 x6 x7 w_bb w_m w_v σ = some (1 : Int32) → W p l e room_1 s m #[Value.ref b] below meth c H locs 44 13141 (lw_Z below #[Value.ref b] s) (F0 m 305 ls [])) : ∀ (w : va_W) (x5 : Int32) (x6 : Int32) (x7 : Int32) (x8 : Int32) (x9 : Int32) (x12 : Int32) (x15 : Int32) (x16 : Int32) (s0 : Int32) (w_bb : Nat → Int32) (w_m : Nat → Int32) (w_v : Nat → Int32) (σ : k_SB) (H : Heap) (locs : List Loc) (ls : Array Slot), XW G h_o σ w → va_P G.1 vwCl ([(h_bb, .inl (k_cI G, 21, .inl w_bb)), (h_m, .inl (k_cI G, 7, .inl w_m)), (h_v, .inl (k_cI G, 4, .inl w_v))] ++ w) H → va_D A ([(h_bb, .inl (k_cI G, 21, .inl w_bb)), (h_m, .inl (k_cI G, 7, .inl w_m)), (h_v, .inl (k_cI G, 4, .inl w_v))] ++ w) → va_S A s.heap H locs → lv_has ls 21 [(0, .ref (k_xB G)), (1, .ref h_o), (3, .ref h_bb), (4, .ref h_v), (5, .int x5), (6, .int x6), (7, .int x7), (8, .int x8), (9, .int x9), (12, .int x12), (15, .int x15), (16, .int x16)] → f_L_law_902 (k_xL G) (k_xs G) k286 k305 x5 x6 x7 x8 x9 x12 x15 x16 s0 w_bb w_m w_v σ = some (1 : Int32) → W p l e room_1 s m #[Value.ref b] below meth c H locs 44 13141 (lw_Z below #[Value.ref b] s) (F0 m 902 ls [.int s0]) := by
  have hx := C0.1
  have hb := C0.2.1
  have hts := C0.2.2.2.1
  have hown := C0.2.2.2.2.1
  have hK := C0.2.2.2.2.2.2.2.2.1.1
  have hNW := C0.2.2.2.2.2.2.2.2.1.2.1
  have hSF := C0.2.2.2.2.2.2.2.2.1.2.2
  intro w x5 x6 x7 x8 x9 x12 x15 x16 s0 w_bb w_m w_v σ H locs ls hXW hP hD hS hl hrun
  rw [f_L_law_902] at hrun
  refine lv_aload_n hx hb dL_law_902 rfl (lv_at hl 1 rfl) ?_
  refine lv_iload hx hb dL_law_903 (lv_at hl 6 rfl) ?_
  refine lv_iload hx hb dL_law_905 (lv_at hl 10 rfl) ?_
  obtain ⟨t1, et1, hrun⟩ := bd_inv hrun
  obtain ⟨σ2, eσ2, hrun⟩ := lt_inv hrun
  obtain ⟨fs9, he9⟩ := XW_head hXW
  refine lw_callVi (wr := [(h_bb, .inl (k_cI G, 21, .inl w_bb)), (h_m, .inl (k_cI G, 7, .inl w_m)), (h_v, .inl (k_cI G, 4, .inl w_v))]) (rest := [.int s0]) C0 (lx_slipEnergy hXW et1 H.size) (cwV 2 hts gL_law_X11_slipEnergy rfl rfl rfl e_X11_slipEnergy ⟨Nat.le_of_ble_eq_true rfl, Nat.le_of_ble_eq_true rfl⟩) hP hD hS rfl rfl he9 rfl hl.1 rfl (Nat.le_of_ble_eq_true rfl) dL_law_907 ⟨Nat.le_of_ble_eq_true rfl, Nat.le_of_ble_eq_true rfl⟩ (fun w3 H locs hXW hP hD hS => ?_)
  replace hXW : XW G h_o σ2 w3 := by rw [eσ2]; exact hXW
  clear et1 eσ2 he9
  refine lv_iload hx hb dL_law_910 (lv_at hl 9 rfl) ?_
  refine lv_icmp_lt (tgt := 919) hx hb dL_law_912 (by decide) (fun q4 => ?_) (fun q4 => ?_)
  · replace hrun := if_t q4 hrun
    refine lv_iconst (v := 0) hx hb dL_law_919 (by decide) ?_
    exact t_L_law_920 C0 hAs k286 hk286 k305 hk305 w3 x5 x6 x7 x8 x9 x12 x15 x16 s0 (0 : Int32) w_bb w_m w_v σ2 _ _ _ hXW hP hD hS hl hrun
  · replace hrun := if_f q4 hrun
    refine lv_iconst (v := 1) hx hb dL_law_915 (by decide) ?_
    refine lv_goto (tgt := 920) hx hb dL_law_916 (by decide) ?_
    exact t_L_law_920 C0 hAs k286 hk286 k305 hk305 w3 x5 x6 x7 x8 x9 x12 x15 x16 s0 (1 : Int32) w_bb w_m w_v σ2 _ _ _ hXW hP hD hS hl hrun
set_option maxHeartbeats 4000000 in
set_option maxRecDepth 100000 in
theorem t_L_law_833 {l : Launch} {G : k_G} {p : Program} {e : Env} {s : State} {m : MethodId} {b : Nat} {below : List Frame} {meth : Method} {c : Code} {A : Nat → Prop} {h_bb h_m h_v h_o : Nat} (C0 : k_C G p s m #[Value.ref b] meth c A code RL lw_tbl 21 (some .boolean) meth.name) (hAs : ∀ q, A q → s.heap.size ≤ q) (k286 : Int32 → (Nat → Int32) → (Nat → Int32) → (Nat → Int32) → k_SB → Option (Int32)) (hk286 : ∀ (w : va_W) (x5 : Int32) (w_bb : Nat → Int32) (w_m : Nat → Int32) (w_v : Nat → Int32) (σ : k_SB) (H : Heap) (locs : List Loc) (ls : Array Slot), XW G h_o σ w → va_P G.1 vwCl ([(h_bb, .inl (k_cI G, 21, .inl w_bb)), (h_m, .inl (k_cI G, 7, .inl w_m)), (h_v, .inl (k_cI G, 4, .inl w_v))] ++ w) H → va_D A ([(h_bb, .inl (k_cI G, 21, .inl w_bb)), (h_m, .inl (k_cI G, 7, .inl w_m)), (h_v, .inl (k_cI G, 4, .inl w_v))] ++ w) → va_S A s.heap H locs → lv_has ls 21 [(0, .ref (k_xB G)), (1, .ref h_o), (3, .ref h_bb), (4, .ref h_v), (5, .int x5)] → k286 x5 w_bb w_m w_v σ = some (1 : Int32) → W p l e room_1 s m #[Value.ref b] below meth c H locs 44 13141 (lw_Z below #[Value.ref b] s) (F0 m 286 ls [])) (k305 : Int32 → Int32 → Int32 → (Nat → Int32) → (Nat → Int32) → (Nat → Int32) → k_SB → Option (Int32)) (hk305 : ∀ (w : va_W) (x5 : Int32) (x6 : Int32) (x7 : Int32) (w_bb : Nat → Int32) (w_m : Nat → Int32) (w_v : Nat → Int32) (σ : k_SB) (H : Heap) (locs : List Loc) (ls : Array Slot), XW G h_o σ w → va_P G.1 vwCl ([(h_bb, .inl (k_cI G, 21, .inl w_bb)), (h_m, .inl (k_cI G, 7, .inl w_m)), (h_v, .inl (k_cI G, 4, .inl w_v))] ++ w) H → va_D A ([(h_bb, .inl (k_cI G, 21, .inl w_bb)), (h_m, .inl (k_cI G, 7, .inl w_m)), (h_v, .inl (k_cI G, 4, .inl w_v))] ++ w) → va_S A s.heap H locs → lv_has ls 21 [(0, .ref (k_xB G)), (1, .ref h_o), (3, .ref h_bb), (4, .ref h_v), (5, .int x5), (6, .int x6), (7, .int x7)] → k305 x5 x6 x7 w_bb w_m w_v σ = some (1 : Int32) → W p l e room_1 s m #[Value.ref b] below meth c H locs 44 13141 (lw_Z below #[Value.ref b] s) (F0 m 305 ls [])) : ∀ (n : Nat) (w : va_W) (x5 : Int32) (x6 : Int32) (x7 : Int32) (x8 : Int32) (x9 : Int32) (x12 : Int32) (x14 : Int32) (x15 : Int32) (w_bb : Nat → Int32) (w_m : Nat → Int32) (w_v : Nat → Int32) (σ : k_SB) (H : Heap) (locs : List Loc) (ls : Array Slot), XW G h_o σ w → va_P G.1 vwCl ([(h_bb, .inl (k_cI G, 21, .inl w_bb)), (h_m, .inl (k_cI G, 7, .inl w_m)), (h_v, .inl (k_cI G, 4, .inl w_v))] ++ w) H → va_D A ([(h_bb, .inl (k_cI G, 21, .inl w_bb)), (h_m, .inl (k_cI G, 7, .inl w_m)), (h_v, .inl (k_cI G, 4, .inl w_v))] ++ w) → va_S A s.heap H locs → lv_has ls 21 [(0, .ref (k_xB G)), (1, .ref h_o), (3, .ref h_bb), (4, .ref h_v), (5, .int x5), (6, .int x6), (7, .int x7), (8, .int x8), (9, .int x9), (12, .int x12), (14, .int x14), (15, .int x15)] → f_L_law_833 (k_xL G) (k_xs G) k286 k305 n x5 x6 x7 x8 x9 x12 x14 x15 w_bb w_m w_v σ = some (1 : Int32) → W p l e room_1 s m #[Value.ref b] below meth c H locs 44 13141 (lw_Z below #[Value.ref b] s) (F0 m 833 ls []) := by
  have hx := C0.1
  have hb := C0.2.1
  have hts := C0.2.2.2.1
  have hown := C0.2.2.2.2.1
  have hK := C0.2.2.2.2.2.2.2.2.1.1
  have hNW := C0.2.2.2.2.2.2.2.2.1.2.1
  have hSF := C0.2.2.2.2.2.2.2.2.1.2.2
  intro n
  induction n with
  | zero =>
    intro w x5 x6 x7 x8 x9 x12 x14 x15 w_bb w_m w_v σ H locs ls hXW hP hD hS hl hrun
    rw [f_L_law_833] at hrun
    cases hrun
  | succ n ih =>
    intro w x5 x6 x7 x8 x9 x12 x14 x15 w_bb w_m w_v σ H locs ls hXW hP hD hS hl hrun
    rw [f_L_law_833] at hrun
    refine lv_iload hx hb dL_law_833 (lv_at hl 11 rfl) ?_
    refine lv_iload hx hb dL_law_835 (lv_at hl 10 rfl) ?_
    refine lv_icmp_ge (tgt := 859) hx hb dL_law_837 (by decide) (fun q1 => ?_) (fun q1 => ?_)
    · replace hrun := if_t q1 hrun
      refine lv_aload_n hx hb dL_law_859 rfl (lv_at hl 1 rfl) ?_
      refine lv_iload hx hb dL_law_860 (lv_at hl 6 rfl) ?_
      obtain ⟨t2, et2, hrun⟩ := bd_inv hrun
      obtain ⟨σ3, eσ3, hrun⟩ := lt_inv hrun
      obtain ⟨fs9, he9⟩ := XW_head hXW
      refine lw_callVi (wr := [(h_bb, .inl (k_cI G, 21, .inl w_bb)), (h_m, .inl (k_cI G, 7, .inl w_m)), (h_v, .inl (k_cI G, 4, .inl w_v))]) (rest := []) C0 (lx_weakest hXW et2 H.size) (cwV 1 hts gL_law_X11_weakest rfl rfl rfl e_X11_weakest ⟨Nat.le_of_ble_eq_true rfl, Nat.le_of_ble_eq_true rfl⟩) hP hD hS rfl rfl he9 rfl hl.1 rfl (Nat.le_of_ble_eq_true rfl) dL_law_862 ⟨Nat.le_of_ble_eq_true rfl, Nat.le_of_ble_eq_true rfl⟩ (fun w4 H locs hXW hP hD hS => ?_)
      replace hXW : XW G h_o σ3 w4 := by rw [eσ3]; exact hXW
      clear et2 eσ3 he9
      refine lv_istore (lv' := [(15, .int t2.1), (0, .ref (k_xB G)), (1, .ref h_o), (3, .ref h_bb), (4, .ref h_v), (5, .int x5), (6, .int x6), (7, .int x7), (8, .int x8), (9, .int x9), (12, .int x12), (14, .int x14)]) hx hb dL_law_865 hl (by decide) rfl (fun ls hl => ?_)
      refine lv_aload_n hx hb dL_law_867 rfl (lv_at hl 2 rfl) ?_
      refine lv_iload hx hb dL_law_868 (lv_at hl 7 rfl) ?_
      obtain ⟨t5, et5, hrun⟩ := bd_inv hrun
      obtain ⟨σ6, eσ6, hrun⟩ := lt_inv hrun
      obtain ⟨fs9, he9⟩ := XW_head hXW
      refine lw_callVi (wr := [(h_bb, .inl (k_cI G, 21, .inl w_bb)), (h_m, .inl (k_cI G, 7, .inl w_m)), (h_v, .inl (k_cI G, 4, .inl w_v))]) (rest := []) C0 (lx_relaxed hXW et5 H.size) (cwV 1 hts gL_law_X11_relaxed rfl rfl rfl e_X11_relaxed ⟨Nat.le_of_ble_eq_true rfl, Nat.le_of_ble_eq_true rfl⟩) hP hD hS rfl rfl he9 rfl hl.1 rfl (Nat.le_of_ble_eq_true rfl) dL_law_870 ⟨Nat.le_of_ble_eq_true rfl, Nat.le_of_ble_eq_true rfl⟩ (fun w7 H locs hXW hP hD hS => ?_)
      replace hXW : XW G h_o σ6 w7 := by rw [eσ6]; exact hXW
      clear et5 eσ6 he9
      refine lv_istore (lv' := [(16, .int t5.1), (15, .int t2.1), (0, .ref (k_xB G)), (1, .ref h_o), (3, .ref h_bb), (4, .ref h_v), (5, .int x5), (6, .int x6), (7, .int x7), (8, .int x8), (9, .int x9), (12, .int x12), (14, .int x14)]) hx hb dL_law_873 hl (by decide) rfl (fun ls hl => ?_)
      refine lv_aload_n hx hb dL_law_875 rfl (lv_at hl 4 rfl) ?_
      refine lv_iload hx hb dL_law_876 (lv_at hl 9 rfl) ?_
      refine lv_iload hx hb dL_law_878 (lv_at hl 0 rfl) ?_
      obtain ⟨t8, et8, hrun⟩ := bd_inv hrun
      have hpm : List.Perm ([(h_bb, .inl (k_cI G, 21, .inl w_bb)), (h_m, .inl (k_cI G, 7, .inl w_m)), (h_v, .inl (k_cI G, 4, .inl w_v))] ++ w7) (([(h_m, .inl (k_cI G, 7, .inl w_m)), (h_v, .inl (k_cI G, 4, .inl w_v))] ++ w7) ++ [(h_bb, .inl (k_cI G, 21, .inl w_bb))]) := (List.Perm.trans (List.Perm.trans (List.Perm.swap _ _ _) (List.Perm.cons _ (List.Perm.swap _ _ _))) (List.Perm.cons _ (List.Perm.cons _ (k_psn _ _))))
      refine lw_callSi (wr := ([(h_m, .inl (k_cI G, 7, .inl w_m)), (h_v, .inl (k_cI G, 4, .inl w_v))] ++ w7)) (wc := [(h_bb, .inl (k_cI G, 21, .inl w_bb))]) (rest := []) C0 (cd_L_energy et8 H.size) (va_cwS 3 hts gL_law_L_energy rfl rfl rfl e_L_energy.2 ⟨Nat.le_of_ble_eq_true rfl, Nat.le_of_ble_eq_true rfl⟩) (k_permP hP hpm) (k_permD hD hpm) hS rfl hl.1 rfl (Nat.le_of_ble_eq_true rfl) dL_law_880 ⟨Nat.le_of_ble_eq_true rfl, Nat.le_of_ble_eq_true rfl⟩ (fun u9 H locs hu9 hP hD hS => ?_)
      obtain rfl := hu9
      replace hP : va_P G.1 vwCl ([(h_bb, .inl (k_cI G, 21, .inl w_bb)), (h_m, .inl (k_cI G, 7, .inl w_m)), (h_v, .inl (k_cI G, 4, .inl w_v))] ++ w7) H := k_permP hP hpm.symm
      replace hD : va_D A ([(h_bb, .inl (k_cI G, 21, .inl w_bb)), (h_m, .inl (k_cI G, 7, .inl w_m)), (h_v, .inl (k_cI G, 4, .inl w_v))] ++ w7) := k_permD hD hpm.symm
      clear hpm et8
      refine lv_iload hx hb dL_law_883 (lv_at hl 11 rfl) ?_
      refine lv_icmp_gt (tgt := 952) hx hb dL_law_885 (by decide) (fun q10 => ?_) (fun q10 => ?_)
      · replace hrun := if_t q10 hrun
        refine lv_iconst (v := 0) hx hb dL_law_952 (by decide) ?_
        exact absurd (Option.some.inj hrun) (by decide)
      · replace hrun := if_f q10 hrun
        refine lv_aload_n hx hb dL_law_888 rfl (lv_at hl 3 rfl) ?_
        refine lv_iload hx hb dL_law_889 (lv_at hl 8 rfl) ?_
        obtain ⟨t11, et11, hrun⟩ := bd_inv hrun
        obtain ⟨σ12, eσ12, hrun⟩ := lt_inv hrun
        obtain ⟨fs9, he9⟩ := XW_head hXW
        refine lw_callVi (wr := [(h_bb, .inl (k_cI G, 21, .inl w_bb)), (h_m, .inl (k_cI G, 7, .inl w_m)), (h_v, .inl (k_cI G, 4, .inl w_v))]) (rest := []) C0 (lx_relax hXW et11 H.size) (cwV 1 hts gL_law_X11_relax rfl rfl rfl e_X11_relax ⟨Nat.le_of_ble_eq_true rfl, Nat.le_of_ble_eq_true rfl⟩) hP hD hS rfl rfl he9 rfl hl.1 rfl (Nat.le_of_ble_eq_true rfl) dL_law_891 ⟨Nat.le_of_ble_eq_true rfl, Nat.le_of_ble_eq_true rfl⟩ (fun w13 H locs hXW hP hD hS => ?_)
        replace hXW : XW G h_o σ12 w13 := by rw [eσ12]; exact hXW
        clear et11 eσ12 he9
        refine lv_if_ne (tgt := 901) hx hb dL_law_894 (by decide) (fun q14 => ?_) (fun q14 => ?_)
        · replace hrun := if_f q14 hrun
          refine lv_iconst (v := 0) hx hb dL_law_901 (by decide) ?_
          exact t_L_law_902 C0 hAs k286 hk286 k305 hk305 w13 x5 x6 x7 x8 x9 x12 t2.1 t5.1 (0 : Int32) w_bb w_m w_v σ12 _ _ _ hXW hP hD hS (lv_sub hl [2, 3, 4, 5, 6, 7, 8, 9, 10, 11, 1, 0] rfl) hrun
        · replace hrun := if_t q14 hrun
          refine lv_iconst (v := 1) hx hb dL_law_897 (by decide) ?_
          refine lv_goto (tgt := 902) hx hb dL_law_898 (by decide) ?_
          exact t_L_law_902 C0 hAs k286 hk286 k305 hk305 w13 x5 x6 x7 x8 x9 x12 t2.1 t5.1 (1 : Int32) w_bb w_m w_v σ12 _ _ _ hXW hP hD hS (lv_sub hl [2, 3, 4, 5, 6, 7, 8, 9, 10, 11, 1, 0] rfl) hrun
    · replace hrun := if_f q1 hrun
      refine lv_aload_n hx hb dL_law_840 rfl (lv_at hl 1 rfl) ?_
      refine lv_iload hx hb dL_law_841 (lv_at hl 6 rfl) ?_
      refine lv_iload hx hb dL_law_843 (lv_at hl 11 rfl) ?_
      obtain ⟨t15, et15, hrun⟩ := bd_inv hrun
      obtain ⟨σ16, eσ16, hrun⟩ := lt_inv hrun
      obtain ⟨fs9, he9⟩ := XW_head hXW
      refine lw_callVi (wr := [(h_bb, .inl (k_cI G, 21, .inl w_bb)), (h_m, .inl (k_cI G, 7, .inl w_m)), (h_v, .inl (k_cI G, 4, .inl w_v))]) (rest := []) C0 (lx_out hXW et15 H.size) (cwV 2 hts gL_law_X11_out rfl rfl rfl e_X11_out ⟨Nat.le_of_ble_eq_true rfl, Nat.le_of_ble_eq_true rfl⟩) hP hD hS rfl rfl he9 rfl hl.1 rfl (Nat.le_of_ble_eq_true rfl) dL_law_845 ⟨Nat.le_of_ble_eq_true rfl, Nat.le_of_ble_eq_true rfl⟩ (fun w17 H locs hXW hP hD hS => ?_)
      replace hXW : XW G h_o σ16 w17 := by rw [eσ16]; exact hXW
      clear et15 eσ16 he9
      refine lv_if_ne (tgt := 853) hx hb dL_law_848 (by decide) (fun q18 => ?_) (fun q18 => ?_)
      · replace hrun := if_f q18 hrun
        refine lv_iinc (v := x15 + 1) (lv' := [(15, .int (x15 + 1)), (0, .ref (k_xB G)), (1, .ref h_o), (3, .ref h_bb), (4, .ref h_v), (5, .int x5), (6, .int x6), (7, .int x7), (8, .int x8), (9, .int x9), (12, .int x12), (14, .int x14)]) hx hb dL_law_853 hl (k := 11) rfl rfl (by decide) rfl (fun ls hl => ?_)
        refine lv_goto (tgt := 833) hx hb dL_law_856 (by decide) ?_
        exact ih w17 x5 x6 x7 x8 x9 x12 x14 (x15 + 1) w_bb w_m w_v σ16 _ _ _ hXW hP hD hS (lv_sub hl [1, 2, 3, 4, 5, 6, 7, 8, 9, 10, 11, 0] rfl) hrun
      · replace hrun := if_t q18 hrun
        refine lv_iconst (v := 0) hx hb dL_law_851 (by decide) ?_
        exact absurd (Option.some.inj hrun) (by decide)
set_option maxHeartbeats 4000000 in
set_option maxRecDepth 100000 in
theorem t_L_law_830 {l : Launch} {G : k_G} {p : Program} {e : Env} {s : State} {m : MethodId} {b : Nat} {below : List Frame} {meth : Method} {c : Code} {A : Nat → Prop} {h_bb h_m h_v h_o : Nat} (C0 : k_C G p s m #[Value.ref b] meth c A code RL lw_tbl 21 (some .boolean) meth.name) (hAs : ∀ q, A q → s.heap.size ≤ q) (k286 : Int32 → (Nat → Int32) → (Nat → Int32) → (Nat → Int32) → k_SB → Option (Int32)) (hk286 : ∀ (w : va_W) (x5 : Int32) (w_bb : Nat → Int32) (w_m : Nat → Int32) (w_v : Nat → Int32) (σ : k_SB) (H : Heap) (locs : List Loc) (ls : Array Slot), XW G h_o σ w → va_P G.1 vwCl ([(h_bb, .inl (k_cI G, 21, .inl w_bb)), (h_m, .inl (k_cI G, 7, .inl w_m)), (h_v, .inl (k_cI G, 4, .inl w_v))] ++ w) H → va_D A ([(h_bb, .inl (k_cI G, 21, .inl w_bb)), (h_m, .inl (k_cI G, 7, .inl w_m)), (h_v, .inl (k_cI G, 4, .inl w_v))] ++ w) → va_S A s.heap H locs → lv_has ls 21 [(0, .ref (k_xB G)), (1, .ref h_o), (3, .ref h_bb), (4, .ref h_v), (5, .int x5)] → k286 x5 w_bb w_m w_v σ = some (1 : Int32) → W p l e room_1 s m #[Value.ref b] below meth c H locs 44 13141 (lw_Z below #[Value.ref b] s) (F0 m 286 ls [])) (k305 : Int32 → Int32 → Int32 → (Nat → Int32) → (Nat → Int32) → (Nat → Int32) → k_SB → Option (Int32)) (hk305 : ∀ (w : va_W) (x5 : Int32) (x6 : Int32) (x7 : Int32) (w_bb : Nat → Int32) (w_m : Nat → Int32) (w_v : Nat → Int32) (σ : k_SB) (H : Heap) (locs : List Loc) (ls : Array Slot), XW G h_o σ w → va_P G.1 vwCl ([(h_bb, .inl (k_cI G, 21, .inl w_bb)), (h_m, .inl (k_cI G, 7, .inl w_m)), (h_v, .inl (k_cI G, 4, .inl w_v))] ++ w) H → va_D A ([(h_bb, .inl (k_cI G, 21, .inl w_bb)), (h_m, .inl (k_cI G, 7, .inl w_m)), (h_v, .inl (k_cI G, 4, .inl w_v))] ++ w) → va_S A s.heap H locs → lv_has ls 21 [(0, .ref (k_xB G)), (1, .ref h_o), (3, .ref h_bb), (4, .ref h_v), (5, .int x5), (6, .int x6), (7, .int x7)] → k305 x5 x6 x7 w_bb w_m w_v σ = some (1 : Int32) → W p l e room_1 s m #[Value.ref b] below meth c H locs 44 13141 (lw_Z below #[Value.ref b] s) (F0 m 305 ls [])) : ∀ (w : va_W) (x5 : Int32) (x6 : Int32) (x7 : Int32) (x8 : Int32) (x9 : Int32) (x12 : Int32) (x14 : Int32) (w_bb : Nat → Int32) (w_m : Nat → Int32) (w_v : Nat → Int32) (σ : k_SB) (H : Heap) (locs : List Loc) (ls : Array Slot), XW G h_o σ w → va_P G.1 vwCl ([(h_bb, .inl (k_cI G, 21, .inl w_bb)), (h_m, .inl (k_cI G, 7, .inl w_m)), (h_v, .inl (k_cI G, 4, .inl w_v))] ++ w) H → va_D A ([(h_bb, .inl (k_cI G, 21, .inl w_bb)), (h_m, .inl (k_cI G, 7, .inl w_m)), (h_v, .inl (k_cI G, 4, .inl w_v))] ++ w) → va_S A s.heap H locs → lv_has ls 21 [(0, .ref (k_xB G)), (1, .ref h_o), (3, .ref h_bb), (4, .ref h_v), (5, .int x5), (6, .int x6), (7, .int x7), (8, .int x8), (9, .int x9), (12, .int x12), (14, .int x14)] → f_L_law_830 (k_xL G) (k_xs G) k286 k305 x5 x6 x7 x8 x9 x12 x14 w_bb w_m w_v σ = some (1 : Int32) → W p l e room_1 s m #[Value.ref b] below meth c H locs 44 13141 (lw_Z below #[Value.ref b] s) (F0 m 830 ls []) := by
  have hx := C0.1
  have hb := C0.2.1
  have hts := C0.2.2.2.1
  have hown := C0.2.2.2.2.1
  have hK := C0.2.2.2.2.2.2.2.2.1.1
  have hNW := C0.2.2.2.2.2.2.2.2.1.2.1
  have hSF := C0.2.2.2.2.2.2.2.2.1.2.2
  intro w x5 x6 x7 x8 x9 x12 x14 w_bb w_m w_v σ H locs ls hXW hP hD hS hl hrun
  rw [f_L_law_830] at hrun
  refine lv_iconst (v := 1) hx hb dL_law_830 (by decide) ?_
  refine lv_istore (lv' := [(15, .int (1 : Int32)), (0, .ref (k_xB G)), (1, .ref h_o), (3, .ref h_bb), (4, .ref h_v), (5, .int x5), (6, .int x6), (7, .int x7), (8, .int x8), (9, .int x9), (12, .int x12), (14, .int x14)]) hx hb dL_law_831 hl (by decide) rfl (fun ls hl => ?_)
  exact t_L_law_833 C0 hAs k286 hk286 k305 hk305 kFU w x5 x6 x7 x8 x9 x12 x14 (1 : Int32) w_bb w_m w_v σ _ _ _ hXW hP hD hS (lv_sub hl [1, 2, 3, 4, 5, 6, 7, 8, 9, 10, 11, 0] rfl) hrun
set_option maxHeartbeats 4000000 in
set_option maxRecDepth 100000 in
theorem t_L_law_754 {l : Launch} {G : k_G} {p : Program} {e : Env} {s : State} {m : MethodId} {b : Nat} {below : List Frame} {meth : Method} {c : Code} {A : Nat → Prop} {h_bb h_m h_v h_o : Nat} (C0 : k_C G p s m #[Value.ref b] meth c A code RL lw_tbl 21 (some .boolean) meth.name) (hAs : ∀ q, A q → s.heap.size ≤ q) (k286 : Int32 → (Nat → Int32) → (Nat → Int32) → (Nat → Int32) → k_SB → Option (Int32)) (hk286 : ∀ (w : va_W) (x5 : Int32) (w_bb : Nat → Int32) (w_m : Nat → Int32) (w_v : Nat → Int32) (σ : k_SB) (H : Heap) (locs : List Loc) (ls : Array Slot), XW G h_o σ w → va_P G.1 vwCl ([(h_bb, .inl (k_cI G, 21, .inl w_bb)), (h_m, .inl (k_cI G, 7, .inl w_m)), (h_v, .inl (k_cI G, 4, .inl w_v))] ++ w) H → va_D A ([(h_bb, .inl (k_cI G, 21, .inl w_bb)), (h_m, .inl (k_cI G, 7, .inl w_m)), (h_v, .inl (k_cI G, 4, .inl w_v))] ++ w) → va_S A s.heap H locs → lv_has ls 21 [(0, .ref (k_xB G)), (1, .ref h_o), (3, .ref h_bb), (4, .ref h_v), (5, .int x5)] → k286 x5 w_bb w_m w_v σ = some (1 : Int32) → W p l e room_1 s m #[Value.ref b] below meth c H locs 44 13141 (lw_Z below #[Value.ref b] s) (F0 m 286 ls [])) (k305 : Int32 → Int32 → Int32 → (Nat → Int32) → (Nat → Int32) → (Nat → Int32) → k_SB → Option (Int32)) (hk305 : ∀ (w : va_W) (x5 : Int32) (x6 : Int32) (x7 : Int32) (w_bb : Nat → Int32) (w_m : Nat → Int32) (w_v : Nat → Int32) (σ : k_SB) (H : Heap) (locs : List Loc) (ls : Array Slot), XW G h_o σ w → va_P G.1 vwCl ([(h_bb, .inl (k_cI G, 21, .inl w_bb)), (h_m, .inl (k_cI G, 7, .inl w_m)), (h_v, .inl (k_cI G, 4, .inl w_v))] ++ w) H → va_D A ([(h_bb, .inl (k_cI G, 21, .inl w_bb)), (h_m, .inl (k_cI G, 7, .inl w_m)), (h_v, .inl (k_cI G, 4, .inl w_v))] ++ w) → va_S A s.heap H locs → lv_has ls 21 [(0, .ref (k_xB G)), (1, .ref h_o), (3, .ref h_bb), (4, .ref h_v), (5, .int x5), (6, .int x6), (7, .int x7)] → k305 x5 x6 x7 w_bb w_m w_v σ = some (1 : Int32) → W p l e room_1 s m #[Value.ref b] below meth c H locs 44 13141 (lw_Z below #[Value.ref b] s) (F0 m 305 ls [])) : ∀ (n : Nat) (w : va_W) (x5 : Int32) (x6 : Int32) (x7 : Int32) (x8 : Int32) (x9 : Int32) (x10 : Int32) (x12 : Int32) (x13 : Int32) (x14 : Int32) (w_bb : Nat → Int32) (w_m : Nat → Int32) (w_v : Nat → Int32) (σ : k_SB) (H : Heap) (locs : List Loc) (ls : Array Slot), XW G h_o σ w → va_P G.1 vwCl ([(h_bb, .inl (k_cI G, 21, .inl w_bb)), (h_m, .inl (k_cI G, 7, .inl w_m)), (h_v, .inl (k_cI G, 4, .inl w_v))] ++ w) H → va_D A ([(h_bb, .inl (k_cI G, 21, .inl w_bb)), (h_m, .inl (k_cI G, 7, .inl w_m)), (h_v, .inl (k_cI G, 4, .inl w_v))] ++ w) → va_S A s.heap H locs → lv_has ls 21 [(0, .ref (k_xB G)), (1, .ref h_o), (3, .ref h_bb), (4, .ref h_v), (5, .int x5), (6, .int x6), (7, .int x7), (8, .int x8), (9, .int x9), (10, .int x10), (12, .int x12), (13, .int x13), (14, .int x14)] → f_L_law_754 (k_xL G) (k_xs G) k286 k305 n x5 x6 x7 x8 x9 x10 x12 x13 x14 w_bb w_m w_v σ = some (1 : Int32) → W p l e room_1 s m #[Value.ref b] below meth c H locs 44 13141 (lw_Z below #[Value.ref b] s) (F0 m 754 ls []) := by
  have hx := C0.1
  have hb := C0.2.1
  have hts := C0.2.2.2.1
  have hown := C0.2.2.2.2.1
  have hK := C0.2.2.2.2.2.2.2.2.1.1
  have hNW := C0.2.2.2.2.2.2.2.2.1.2.1
  have hSF := C0.2.2.2.2.2.2.2.2.1.2.2
  intro n
  induction n with
  | zero =>
    intro w x5 x6 x7 x8 x9 x10 x12 x13 x14 w_bb w_m w_v σ H locs ls hXW hP hD hS hl hrun
    rw [f_L_law_754] at hrun
    cases hrun
  | succ n ih =>
    intro w x5 x6 x7 x8 x9 x10 x12 x13 x14 w_bb w_m w_v σ H locs ls hXW hP hD hS hl hrun
    rw [f_L_law_754] at hrun
    refine lv_iload hx hb dL_law_754 (lv_at hl 12 rfl) ?_
    refine lv_iload hx hb dL_law_756 (lv_at hl 9 rfl) ?_
    refine lv_icmp_ge (tgt := 780) hx hb dL_law_758 (by decide) (fun q1 => ?_) (fun q1 => ?_)
    · replace hrun := if_t q1 hrun
      refine lv_aload_n hx hb dL_law_780 rfl (lv_at hl 1 rfl) ?_
      refine lv_iload hx hb dL_law_781 (lv_at hl 6 rfl) ?_
      obtain ⟨t2, et2, hrun⟩ := bd_inv hrun
      obtain ⟨σ3, eσ3, hrun⟩ := lt_inv hrun
      obtain ⟨fs9, he9⟩ := XW_head hXW
      refine lw_callVi (wr := [(h_bb, .inl (k_cI G, 21, .inl w_bb)), (h_m, .inl (k_cI G, 7, .inl w_m)), (h_v, .inl (k_cI G, 4, .inl w_v))]) (rest := []) C0 (lx_firstLine hXW et2 H.size) (cwV 1 hts gL_law_X11_firstLine rfl rfl rfl e_X11_firstLine ⟨Nat.le_of_ble_eq_true rfl, Nat.le_of_ble_eq_true rfl⟩) hP hD hS rfl rfl he9 rfl hl.1 rfl (Nat.le_of_ble_eq_true rfl) dL_law_783 ⟨Nat.le_of_ble_eq_true rfl, Nat.le_of_ble_eq_true rfl⟩ (fun w4 H locs hXW hP hD hS => ?_)
      replace hXW : XW G h_o σ3 w4 := by rw [eσ3]; exact hXW
      clear et2 eσ3 he9
      refine lv_istore (lv' := [(14, .int t2.1), (0, .ref (k_xB G)), (1, .ref h_o), (3, .ref h_bb), (4, .ref h_v), (5, .int x5), (6, .int x6), (7, .int x7), (8, .int x8), (9, .int x9), (10, .int x10), (12, .int x12), (13, .int x13)]) hx hb dL_law_786 hl (by decide) rfl (fun ls hl => ?_)
      refine lv_iload hx hb dL_law_788 (lv_at hl 12 rfl) ?_
      refine lv_aload_n hx hb dL_law_790 rfl (lv_at hl 2 rfl) ?_
      refine lv_iload hx hb dL_law_791 (lv_at hl 7 rfl) ?_
      obtain ⟨t5, et5, hrun⟩ := bd_inv hrun
      obtain ⟨σ6, eσ6, hrun⟩ := lt_inv hrun
      obtain ⟨fs9, he9⟩ := XW_head hXW
      refine lw_callVi (wr := [(h_bb, .inl (k_cI G, 21, .inl w_bb)), (h_m, .inl (k_cI G, 7, .inl w_m)), (h_v, .inl (k_cI G, 4, .inl w_v))]) (rest := [.int x13]) C0 (lx_outs hXW et5 H.size) (cwV 1 hts gL_law_X11_outs rfl rfl rfl e_X11_outs ⟨Nat.le_of_ble_eq_true rfl, Nat.le_of_ble_eq_true rfl⟩) hP hD hS rfl rfl he9 rfl hl.1 rfl (Nat.le_of_ble_eq_true rfl) dL_law_793 ⟨Nat.le_of_ble_eq_true rfl, Nat.le_of_ble_eq_true rfl⟩ (fun w7 H locs hXW hP hD hS => ?_)
      replace hXW : XW G h_o σ6 w7 := by rw [eσ6]; exact hXW
      clear et5 eσ6 he9
      refine lv_icmp_ne (tgt := 828) hx hb dL_law_796 (by decide) (fun q8 => ?_) (fun q8 => ?_)
      · replace hrun := if_f q8 hrun
        refine lv_iconst (v := 0) hx hb dL_law_828 (by decide) ?_
        exact absurd (Option.some.inj hrun) (by decide)
      · replace hrun := if_t q8 hrun
        refine lv_iload hx hb dL_law_799 (lv_at hl 12 rfl) ?_
        refine lv_iload hx hb dL_law_801 (lv_at hl 10 rfl) ?_
        refine lv_icmp_ge (tgt := 828) hx hb dL_law_803 (by decide) (fun q9 => ?_) (fun q9 => ?_)
        · replace hrun := if_t q9 hrun
          refine lv_iconst (v := 0) hx hb dL_law_828 (by decide) ?_
          exact absurd (Option.some.inj hrun) (by decide)
        · replace hrun := if_f q9 hrun
          refine lv_iload hx hb dL_law_806 (lv_at hl 0 rfl) ?_
          refine lv_if_eq (tgt := 828) hx hb dL_law_808 (by decide) (fun q10 => ?_) (fun q10 => ?_)
          · replace hrun := if_t q10 hrun
            refine lv_iconst (v := 0) hx hb dL_law_828 (by decide) ?_
            exact absurd (Option.some.inj hrun) (by decide)
          · replace hrun := if_f q10 hrun
            refine lv_iload hx hb dL_law_811 (lv_at hl 0 rfl) ?_
            refine lv_if_le (tgt := 830) hx hb dL_law_813 (by decide) (fun q11 => ?_) (fun q11 => ?_)
            · replace hrun := if_t q11 hrun
              exact t_L_law_830 C0 hAs k286 hk286 k305 hk305 w7 x5 x6 x7 x8 x9 x12 t2.1 w_bb w_m w_v σ6 _ _ _ hXW hP hD hS (lv_sub hl [1, 2, 3, 4, 5, 6, 7, 8, 9, 11, 0] rfl) hrun
            · replace hrun := if_f q11 hrun
              refine lv_aload_n hx hb dL_law_816 rfl (lv_at hl 2 rfl) ?_
              refine lv_iload hx hb dL_law_817 (lv_at hl 7 rfl) ?_
              refine lv_iload hx hb dL_law_819 (lv_at hl 0 rfl) ?_
              obtain ⟨t12, et12, hrun⟩ := bd_inv hrun
              obtain ⟨σ13, eσ13, hrun⟩ := lt_inv hrun
              obtain ⟨fs9, he9⟩ := XW_head hXW
              refine lw_callVi (wr := [(h_bb, .inl (k_cI G, 21, .inl w_bb)), (h_m, .inl (k_cI G, 7, .inl w_m)), (h_v, .inl (k_cI G, 4, .inl w_v))]) (rest := []) C0 (lx_out hXW et12 H.size) (cwV 2 hts gL_law_X11_out rfl rfl rfl e_X11_out ⟨Nat.le_of_ble_eq_true rfl, Nat.le_of_ble_eq_true rfl⟩) hP hD hS rfl rfl he9 rfl hl.1 rfl (Nat.le_of_ble_eq_true rfl) dL_law_821 ⟨Nat.le_of_ble_eq_true rfl, Nat.le_of_ble_eq_true rfl⟩ (fun w14 H locs hXW hP hD hS => ?_)
              replace hXW : XW G h_o σ13 w14 := by rw [eσ13]; exact hXW
              clear et12 eσ13 he9
              refine lv_iconst (v := 1) hx hb dL_law_824 (by decide) ?_
              refine lv_icmp_ne (tgt := 830) hx hb dL_law_825 (by decide) (fun q15 => ?_) (fun q15 => ?_)
              · replace hrun := if_f q15 hrun
                exact t_L_law_830 C0 hAs k286 hk286 k305 hk305 w14 x5 x6 x7 x8 x9 x12 t2.1 w_bb w_m w_v σ13 _ _ _ hXW hP hD hS (lv_sub hl [1, 2, 3, 4, 5, 6, 7, 8, 9, 11, 0] rfl) hrun
              · replace hrun := if_t q15 hrun
                refine lv_iconst (v := 0) hx hb dL_law_828 (by decide) ?_
                exact absurd (Option.some.inj hrun) (by decide)
    · replace hrun := if_f q1 hrun
      refine lv_iload hx hb dL_law_761 (lv_at hl 11 rfl) ?_
      refine lv_aload_n hx hb dL_law_763 rfl (lv_at hl 1 rfl) ?_
      refine lv_iload hx hb dL_law_764 (lv_at hl 6 rfl) ?_
      refine lv_iload hx hb dL_law_766 (lv_at hl 12 rfl) ?_
      obtain ⟨t16, et16, hrun⟩ := bd_inv hrun
      obtain ⟨σ17, eσ17, hrun⟩ := lt_inv hrun
      obtain ⟨fs9, he9⟩ := XW_head hXW
      refine lw_callVi (wr := [(h_bb, .inl (k_cI G, 21, .inl w_bb)), (h_m, .inl (k_cI G, 7, .inl w_m)), (h_v, .inl (k_cI G, 4, .inl w_v))]) (rest := [.int x13]) C0 (lx_out hXW et16 H.size) (cwV 2 hts gL_law_X11_out rfl rfl rfl e_X11_out ⟨Nat.le_of_ble_eq_true rfl, Nat.le_of_ble_eq_true rfl⟩) hP hD hS rfl rfl he9 rfl hl.1 rfl (Nat.le_of_ble_eq_true rfl) dL_law_768 ⟨Nat.le_of_ble_eq_true rfl, Nat.le_of_ble_eq_true rfl⟩ (fun w18 H locs hXW hP hD hS => ?_)
      replace hXW : XW G h_o σ17 w18 := by rw [eσ17]; exact hXW
      clear et16 eσ17 he9
      refine lv_iadd hx hb dL_law_771 ?_
      obtain ⟨n19, en, hrun⟩ := lt_inv hrun
      refine k_nmi en ?_
      clear en
      refine lv_istore (lv' := [(13, .int n19), (0, .ref (k_xB G)), (1, .ref h_o), (3, .ref h_bb), (4, .ref h_v), (5, .int x5), (6, .int x6), (7, .int x7), (8, .int x8), (9, .int x9), (10, .int x10), (12, .int x12), (14, .int x14)]) hx hb dL_law_772 hl (by decide) rfl (fun ls hl => ?_)
      refine lv_iinc (v := x14 + 1) (lv' := [(14, .int (x14 + 1)), (13, .int n19), (0, .ref (k_xB G)), (1, .ref h_o), (3, .ref h_bb), (4, .ref h_v), (5, .int x5), (6, .int x6), (7, .int x7), (8, .int x8), (9, .int x9), (10, .int x10), (12, .int x12)]) hx hb dL_law_774 hl (k := 12) rfl rfl (by decide) rfl (fun ls hl => ?_)
      refine lv_goto (tgt := 754) hx hb dL_law_777 (by decide) ?_
      exact ih w18 x5 x6 x7 x8 x9 x10 x12 n19 (x14 + 1) w_bb w_m w_v σ17 _ _ _ hXW hP hD hS (lv_sub hl [2, 3, 4, 5, 6, 7, 8, 9, 10, 11, 12, 1, 0] rfl) hrun
set_option maxHeartbeats 4000000 in
set_option maxRecDepth 100000 in
theorem t_L_law_603 {l : Launch} {G : k_G} {p : Program} {e : Env} {s : State} {m : MethodId} {b : Nat} {below : List Frame} {meth : Method} {c : Code} {A : Nat → Prop} {h_bb h_m h_v h_o : Nat} (C0 : k_C G p s m #[Value.ref b] meth c A code RL lw_tbl 21 (some .boolean) meth.name) (hAs : ∀ q, A q → s.heap.size ≤ q) (k286 : Int32 → (Nat → Int32) → (Nat → Int32) → (Nat → Int32) → k_SB → Option (Int32)) (hk286 : ∀ (w : va_W) (x5 : Int32) (w_bb : Nat → Int32) (w_m : Nat → Int32) (w_v : Nat → Int32) (σ : k_SB) (H : Heap) (locs : List Loc) (ls : Array Slot), XW G h_o σ w → va_P G.1 vwCl ([(h_bb, .inl (k_cI G, 21, .inl w_bb)), (h_m, .inl (k_cI G, 7, .inl w_m)), (h_v, .inl (k_cI G, 4, .inl w_v))] ++ w) H → va_D A ([(h_bb, .inl (k_cI G, 21, .inl w_bb)), (h_m, .inl (k_cI G, 7, .inl w_m)), (h_v, .inl (k_cI G, 4, .inl w_v))] ++ w) → va_S A s.heap H locs → lv_has ls 21 [(0, .ref (k_xB G)), (1, .ref h_o), (3, .ref h_bb), (4, .ref h_v), (5, .int x5)] → k286 x5 w_bb w_m w_v σ = some (1 : Int32) → W p l e room_1 s m #[Value.ref b] below meth c H locs 44 13141 (lw_Z below #[Value.ref b] s) (F0 m 286 ls [])) (k305 : Int32 → Int32 → Int32 → (Nat → Int32) → (Nat → Int32) → (Nat → Int32) → k_SB → Option (Int32)) (hk305 : ∀ (w : va_W) (x5 : Int32) (x6 : Int32) (x7 : Int32) (w_bb : Nat → Int32) (w_m : Nat → Int32) (w_v : Nat → Int32) (σ : k_SB) (H : Heap) (locs : List Loc) (ls : Array Slot), XW G h_o σ w → va_P G.1 vwCl ([(h_bb, .inl (k_cI G, 21, .inl w_bb)), (h_m, .inl (k_cI G, 7, .inl w_m)), (h_v, .inl (k_cI G, 4, .inl w_v))] ++ w) H → va_D A ([(h_bb, .inl (k_cI G, 21, .inl w_bb)), (h_m, .inl (k_cI G, 7, .inl w_m)), (h_v, .inl (k_cI G, 4, .inl w_v))] ++ w) → va_S A s.heap H locs → lv_has ls 21 [(0, .ref (k_xB G)), (1, .ref h_o), (3, .ref h_bb), (4, .ref h_v), (5, .int x5), (6, .int x6), (7, .int x7)] → k305 x5 x6 x7 w_bb w_m w_v σ = some (1 : Int32) → W p l e room_1 s m #[Value.ref b] below meth c H locs 44 13141 (lw_Z below #[Value.ref b] s) (F0 m 305 ls [])) : ∀ (n : Nat) (w : va_W) (x5 : Int32) (x6 : Int32) (x7 : Int32) (x8 : Int32) (x9 : Int32) (x10 : Int32) (x12 : Int32) (w_bb : Nat → Int32) (w_m : Nat → Int32) (w_v : Nat → Int32) (σ : k_SB) (H : Heap) (locs : List Loc) (ls : Array Slot), XW G h_o σ w → va_P G.1 vwCl ([(h_bb, .inl (k_cI G, 21, .inl w_bb)), (h_m, .inl (k_cI G, 7, .inl w_m)), (h_v, .inl (k_cI G, 4, .inl w_v))] ++ w) H → va_D A ([(h_bb, .inl (k_cI G, 21, .inl w_bb)), (h_m, .inl (k_cI G, 7, .inl w_m)), (h_v, .inl (k_cI G, 4, .inl w_v))] ++ w) → va_S A s.heap H locs → lv_has ls 21 [(0, .ref (k_xB G)), (1, .ref h_o), (3, .ref h_bb), (4, .ref h_v), (5, .int x5), (6, .int x6), (7, .int x7), (8, .int x8), (9, .int x9), (10, .int x10), (12, .int x12)] → f_L_law_603 (k_xL G) (k_xs G) k286 k305 n x5 x6 x7 x8 x9 x10 x12 w_bb w_m w_v σ = some (1 : Int32) → W p l e room_1 s m #[Value.ref b] below meth c H locs 44 13141 (lw_Z below #[Value.ref b] s) (F0 m 603 ls []) := by
  have hx := C0.1
  have hb := C0.2.1
  have hts := C0.2.2.2.1
  have hown := C0.2.2.2.2.1
  have hK := C0.2.2.2.2.2.2.2.2.1.1
  have hNW := C0.2.2.2.2.2.2.2.2.1.2.1
  have hSF := C0.2.2.2.2.2.2.2.2.1.2.2
  intro n
  induction n with
  | zero =>
    intro w x5 x6 x7 x8 x9 x10 x12 w_bb w_m w_v σ H locs ls hXW hP hD hS hl hrun
    rw [f_L_law_603] at hrun
    cases hrun
  | succ n ih =>
    intro w x5 x6 x7 x8 x9 x10 x12 w_bb w_m w_v σ H locs ls hXW hP hD hS hl hrun
    rw [f_L_law_603] at hrun
    refine lv_iload hx hb dL_law_603 (lv_at hl 10 rfl) ?_
    refine lv_iload hx hb dL_law_605 (lv_at hl 9 rfl) ?_
    refine lv_icmp_ge (tgt := 653) hx hb dL_law_607 (by decide) (fun q1 => ?_) (fun q1 => ?_)
    · replace hrun := if_t q1 hrun
      refine lv_aload_n hx hb dL_law_653 rfl (lv_at hl 1 rfl) ?_
      refine lv_iload hx hb dL_law_654 (lv_at hl 6 rfl) ?_
      refine lv_iload hx hb dL_law_656 (lv_at hl 9 rfl) ?_
      obtain ⟨t2, et2, hrun⟩ := bd_inv hrun
      obtain ⟨σ3, eσ3, hrun⟩ := lt_inv hrun
      obtain ⟨fs9, he9⟩ := XW_head hXW
      refine lw_callVi (wr := [(h_bb, .inl (k_cI G, 21, .inl w_bb)), (h_m, .inl (k_cI G, 7, .inl w_m)), (h_v, .inl (k_cI G, 4, .inl w_v))]) (rest := []) C0 (lx_agree hXW et2 H.size) (cwV 2 hts gL_law_X11_agree rfl rfl rfl e_X11_agree ⟨Nat.le_of_ble_eq_true rfl, Nat.le_of_ble_eq_true rfl⟩) hP hD hS rfl rfl he9 rfl hl.1 rfl (Nat.le_of_ble_eq_true rfl) dL_law_658 ⟨Nat.le_of_ble_eq_true rfl, Nat.le_of_ble_eq_true rfl⟩ (fun w4 H locs hXW hP hD hS => ?_)
      replace hXW : XW G h_o σ3 w4 := by rw [eσ3]; exact hXW
      clear et2 eσ3 he9
      refine lv_iload hx hb dL_law_661 (lv_at hl 9 rfl) ?_
      refine lv_icmp_ne (tgt := 699) hx hb dL_law_663 (by decide) (fun q5 => ?_) (fun q5 => ?_)
      · replace hrun := if_f q5 hrun
        refine lv_iconst (v := 0) hx hb dL_law_699 (by decide) ?_
        exact absurd (Option.some.inj hrun) (by decide)
      · replace hrun := if_t q5 hrun
        refine lv_aload_n hx hb dL_law_666 rfl (lv_at hl 1 rfl) ?_
        refine lv_iload hx hb dL_law_667 (lv_at hl 6 rfl) ?_
        refine lv_iconst (v := 1) hx hb dL_law_669 (by decide) ?_
        obtain ⟨t6, et6, hrun⟩ := bd_inv hrun
        obtain ⟨σ7, eσ7, hrun⟩ := lt_inv hrun
        obtain ⟨fs9, he9⟩ := XW_head hXW
        refine lw_callVi (wr := [(h_bb, .inl (k_cI G, 21, .inl w_bb)), (h_m, .inl (k_cI G, 7, .inl w_m)), (h_v, .inl (k_cI G, 4, .inl w_v))]) (rest := []) C0 (lx_agree hXW et6 H.size) (cwV 2 hts gL_law_X11_agree rfl rfl rfl e_X11_agree ⟨Nat.le_of_ble_eq_true rfl, Nat.le_of_ble_eq_true rfl⟩) hP hD hS rfl rfl he9 rfl hl.1 rfl (Nat.le_of_ble_eq_true rfl) dL_law_670 ⟨Nat.le_of_ble_eq_true rfl, Nat.le_of_ble_eq_true rfl⟩ (fun w8 H locs hXW hP hD hS => ?_)
        replace hXW : XW G h_o σ7 w8 := by rw [eσ7]; exact hXW
        clear et6 eσ7 he9
        refine lv_if_ne (tgt := 699) hx hb dL_law_673 (by decide) (fun q9 => ?_) (fun q9 => ?_)
        · replace hrun := if_f q9 hrun
          refine lv_iconst (v := 0) hx hb dL_law_699 (by decide) ?_
          exact absurd (Option.some.inj hrun) (by decide)
        · replace hrun := if_t q9 hrun
          refine lv_aload_n hx hb dL_law_676 rfl (lv_at hl 1 rfl) ?_
          refine lv_iload hx hb dL_law_677 (lv_at hl 6 rfl) ?_
          refine lv_iconst (v := 2) hx hb dL_law_679 (by decide) ?_
          obtain ⟨t10, et10, hrun⟩ := bd_inv hrun
          obtain ⟨σ11, eσ11, hrun⟩ := lt_inv hrun
          obtain ⟨fs9, he9⟩ := XW_head hXW
          refine lw_callVi (wr := [(h_bb, .inl (k_cI G, 21, .inl w_bb)), (h_m, .inl (k_cI G, 7, .inl w_m)), (h_v, .inl (k_cI G, 4, .inl w_v))]) (rest := []) C0 (lx_agree hXW et10 H.size) (cwV 2 hts gL_law_X11_agree rfl rfl rfl e_X11_agree ⟨Nat.le_of_ble_eq_true rfl, Nat.le_of_ble_eq_true rfl⟩) hP hD hS rfl rfl he9 rfl hl.1 rfl (Nat.le_of_ble_eq_true rfl) dL_law_680 ⟨Nat.le_of_ble_eq_true rfl, Nat.le_of_ble_eq_true rfl⟩ (fun w12 H locs hXW hP hD hS => ?_)
          replace hXW : XW G h_o σ11 w12 := by rw [eσ11]; exact hXW
          clear et10 eσ11 he9
          refine lv_iload hx hb dL_law_683 (lv_at hl 7 rfl) ?_
          refine lv_imul hx hb dL_law_685 ?_
          refine lv_aload_n hx hb dL_law_686 rfl (lv_at hl 1 rfl) ?_
          refine lv_iload hx hb dL_law_687 (lv_at hl 6 rfl) ?_
          refine lv_iconst (v := 4) hx hb dL_law_689 (by decide) ?_
          obtain ⟨t13, et13, hrun⟩ := bd_inv hrun
          obtain ⟨σ14, eσ14, hrun⟩ := lt_inv hrun
          obtain ⟨fs9, he9⟩ := XW_head hXW
          refine lw_callVi (wr := [(h_bb, .inl (k_cI G, 21, .inl w_bb)), (h_m, .inl (k_cI G, 7, .inl w_m)), (h_v, .inl (k_cI G, 4, .inl w_v))]) (rest := [.int (t10.1 * x8)]) C0 (lx_stack hXW et13 H.size) (cwV 2 hts gL_law_X11_stack rfl rfl rfl e_X11_stack ⟨Nat.le_of_ble_eq_true rfl, Nat.le_of_ble_eq_true rfl⟩) hP hD hS rfl rfl he9 rfl hl.1 rfl (Nat.le_of_ble_eq_true rfl) dL_law_690 ⟨Nat.le_of_ble_eq_true rfl, Nat.le_of_ble_eq_true rfl⟩ (fun w15 H locs hXW hP hD hS => ?_)
          replace hXW : XW G h_o σ14 w15 := by rw [eσ14]; exact hXW
          clear et13 eσ14 he9
          refine lv_iload hx hb dL_law_693 (lv_at hl 9 rfl) ?_
          refine lv_imul hx hb dL_law_695 ?_
          refine lv_icmp_eq (tgt := 701) hx hb dL_law_696 (by decide) (fun q16 => ?_) (fun q16 => ?_)
          · replace hrun := if_t q16 hrun
            refine lv_aload_n hx hb dL_law_701 rfl (lv_at hl 1 rfl) ?_
            refine lv_iload hx hb dL_law_702 (lv_at hl 6 rfl) ?_
            obtain ⟨t17, et17, hrun⟩ := bd_inv hrun
            obtain ⟨σ18, eσ18, hrun⟩ := lt_inv hrun
            obtain ⟨fs9, he9⟩ := XW_head hXW
            refine lw_callVi (wr := [(h_bb, .inl (k_cI G, 21, .inl w_bb)), (h_m, .inl (k_cI G, 7, .inl w_m)), (h_v, .inl (k_cI G, 4, .inl w_v))]) (rest := []) C0 (lx_energy hXW et17 H.size) (cwV 1 hts gL_law_X11_energy rfl rfl rfl e_X11_energy ⟨Nat.le_of_ble_eq_true rfl, Nat.le_of_ble_eq_true rfl⟩) hP hD hS rfl rfl he9 rfl hl.1 rfl (Nat.le_of_ble_eq_true rfl) dL_law_704 ⟨Nat.le_of_ble_eq_true rfl, Nat.le_of_ble_eq_true rfl⟩ (fun w19 H locs hXW hP hD hS => ?_)
            replace hXW : XW G h_o σ18 w19 := by rw [eσ18]; exact hXW
            clear et17 eσ18 he9
            refine lv_istore (lv' := [(12, .int t17.1), (0, .ref (k_xB G)), (1, .ref h_o), (3, .ref h_bb), (4, .ref h_v), (5, .int x5), (6, .int x6), (7, .int x7), (8, .int x8), (9, .int x9), (10, .int x10)]) hx hb dL_law_707 hl (by decide) rfl (fun ls hl => ?_)
            refine lv_aload_n hx hb dL_law_709 rfl (lv_at hl 2 rfl) ?_
            refine lv_iload hx hb dL_law_710 (lv_at hl 8 rfl) ?_
            obtain ⟨t20, et20, hrun⟩ := bd_inv hrun
            obtain ⟨σ21, eσ21, hrun⟩ := lt_inv hrun
            obtain ⟨fs9, he9⟩ := XW_head hXW
            refine lw_callVi (wr := [(h_bb, .inl (k_cI G, 21, .inl w_bb)), (h_m, .inl (k_cI G, 7, .inl w_m)), (h_v, .inl (k_cI G, 4, .inl w_v))]) (rest := []) C0 (lx_ground hXW et20 H.size) (cwV 1 hts gL_law_X11_ground rfl rfl rfl e_X11_ground ⟨Nat.le_of_ble_eq_true rfl, Nat.le_of_ble_eq_true rfl⟩) hP hD hS rfl rfl he9 rfl hl.1 rfl (Nat.le_of_ble_eq_true rfl) dL_law_712 ⟨Nat.le_of_ble_eq_true rfl, Nat.le_of_ble_eq_true rfl⟩ (fun w22 H locs hXW hP hD hS => ?_)
            replace hXW : XW G h_o σ21 w22 := by rw [eσ21]; exact hXW
            clear et20 eσ21 he9
            refine lv_iload hx hb dL_law_715 (lv_at hl 0 rfl) ?_
            refine lv_icmp_gt (tgt := 746) hx hb dL_law_717 (by decide) (fun q23 => ?_) (fun q23 => ?_)
            · replace hrun := if_t q23 hrun
              refine lv_iconst (v := 0) hx hb dL_law_746 (by decide) ?_
              exact absurd (Option.some.inj hrun) (by decide)
            · replace hrun := if_f q23 hrun
              refine lv_iload hx hb dL_law_720 (lv_at hl 0 rfl) ?_
              refine lv_aload_n hx hb dL_law_722 rfl (lv_at hl 2 rfl) ?_
              refine lv_aload_n hx hb dL_law_723 rfl (lv_at hl 2 rfl) ?_
              obtain ⟨t24, et24, hrun⟩ := bd_inv hrun
              obtain ⟨σ25, eσ25, hrun⟩ := lt_inv hrun
              obtain ⟨fs9, he9⟩ := XW_head hXW
              refine lw_callVi (wr := [(h_bb, .inl (k_cI G, 21, .inl w_bb)), (h_m, .inl (k_cI G, 7, .inl w_m)), (h_v, .inl (k_cI G, 4, .inl w_v))]) (rest := [.ref h_o, .int t17.1]) C0 (lx_calmest hXW et24 H.size) (cwV 0 hts gL_law_X11_calmest rfl rfl rfl e_X11_calmest ⟨Nat.le_of_ble_eq_true rfl, Nat.le_of_ble_eq_true rfl⟩) hP hD hS rfl rfl he9 rfl hl.1 rfl (Nat.le_of_ble_eq_true rfl) dL_law_724 ⟨Nat.le_of_ble_eq_true rfl, Nat.le_of_ble_eq_true rfl⟩ (fun w26 H locs hXW hP hD hS => ?_)
              replace hXW : XW G h_o σ25 w26 := by rw [eσ25]; exact hXW
              clear et24 eσ25 he9
              refine lv_iconst (v := 0) hx hb dL_law_727 (by decide) ?_
              obtain ⟨t27, et27, hrun⟩ := bd_inv hrun
              obtain ⟨σ28, eσ28, hrun⟩ := lt_inv hrun
              obtain ⟨fs9, he9⟩ := XW_head hXW
              refine lw_callVi (wr := [(h_bb, .inl (k_cI G, 21, .inl w_bb)), (h_m, .inl (k_cI G, 7, .inl w_m)), (h_v, .inl (k_cI G, 4, .inl w_v))]) (rest := [.int t17.1]) C0 (lx_stack hXW et27 H.size) (cwV 2 hts gL_law_X11_stack rfl rfl rfl e_X11_stack ⟨Nat.le_of_ble_eq_true rfl, Nat.le_of_ble_eq_true rfl⟩) hP hD hS rfl rfl he9 rfl hl.1 rfl (Nat.le_of_ble_eq_true rfl) dL_law_728 ⟨Nat.le_of_ble_eq_true rfl, Nat.le_of_ble_eq_true rfl⟩ (fun w29 H locs hXW hP hD hS => ?_)
              replace hXW : XW G h_o σ28 w29 := by rw [eσ28]; exact hXW
              clear et27 eσ28 he9
              refine lv_imul hx hb dL_law_731 ?_
              refine lv_aload_n hx hb dL_law_732 rfl (lv_at hl 2 rfl) ?_
              refine lv_aload_n hx hb dL_law_733 rfl (lv_at hl 2 rfl) ?_
              obtain ⟨t30, et30, hrun⟩ := bd_inv hrun
              obtain ⟨σ31, eσ31, hrun⟩ := lt_inv hrun
              obtain ⟨fs9, he9⟩ := XW_head hXW
              refine lw_callVi (wr := [(h_bb, .inl (k_cI G, 21, .inl w_bb)), (h_m, .inl (k_cI G, 7, .inl w_m)), (h_v, .inl (k_cI G, 4, .inl w_v))]) (rest := [.ref h_o, .int (t17.1 * t27.1)]) C0 (lx_calmest hXW et30 H.size) (cwV 0 hts gL_law_X11_calmest rfl rfl rfl e_X11_calmest ⟨Nat.le_of_ble_eq_true rfl, Nat.le_of_ble_eq_true rfl⟩) hP hD hS rfl rfl he9 rfl hl.1 rfl (Nat.le_of_ble_eq_true rfl) dL_law_734 ⟨Nat.le_of_ble_eq_true rfl, Nat.le_of_ble_eq_true rfl⟩ (fun w32 H locs hXW hP hD hS => ?_)
              replace hXW : XW G h_o σ31 w32 := by rw [eσ31]; exact hXW
              clear et30 eσ31 he9
              obtain ⟨t33, et33, hrun⟩ := bd_inv hrun
              obtain ⟨σ34, eσ34, hrun⟩ := lt_inv hrun
              obtain ⟨fs9, he9⟩ := XW_head hXW
              refine lw_callVi (wr := [(h_bb, .inl (k_cI G, 21, .inl w_bb)), (h_m, .inl (k_cI G, 7, .inl w_m)), (h_v, .inl (k_cI G, 4, .inl w_v))]) (rest := [.int (t17.1 * t27.1)]) C0 (lx_energy hXW et33 H.size) (cwV 1 hts gL_law_X11_energy rfl rfl rfl e_X11_energy ⟨Nat.le_of_ble_eq_true rfl, Nat.le_of_ble_eq_true rfl⟩) hP hD hS rfl rfl he9 rfl hl.1 rfl (Nat.le_of_ble_eq_true rfl) dL_law_737 ⟨Nat.le_of_ble_eq_true rfl, Nat.le_of_ble_eq_true rfl⟩ (fun w35 H locs hXW hP hD hS => ?_)
              replace hXW : XW G h_o σ34 w35 := by rw [eσ34]; exact hXW
              clear et33 eσ34 he9
              refine lv_iload hx hb dL_law_740 (lv_at hl 8 rfl) ?_
              refine lv_imul hx hb dL_law_742 ?_
              refine lv_icmp_ge (tgt := 748) hx hb dL_law_743 (by decide) (fun q36 => ?_) (fun q36 => ?_)
              · replace hrun := if_t q36 hrun
                refine lv_iconst (v := 0) hx hb dL_law_748 (by decide) ?_
                refine lv_istore (lv' := [(13, .int (0 : Int32)), (12, .int t17.1), (0, .ref (k_xB G)), (1, .ref h_o), (3, .ref h_bb), (4, .ref h_v), (5, .int x5), (6, .int x6), (7, .int x7), (8, .int x8), (9, .int x9), (10, .int x10)]) hx hb dL_law_749 hl (by decide) rfl (fun ls hl => ?_)
                refine lv_iconst (v := 0) hx hb dL_law_751 (by decide) ?_
                refine lv_istore (lv' := [(14, .int (0 : Int32)), (13, .int (0 : Int32)), (12, .int t17.1), (0, .ref (k_xB G)), (1, .ref h_o), (3, .ref h_bb), (4, .ref h_v), (5, .int x5), (6, .int x6), (7, .int x7), (8, .int x8), (9, .int x9), (10, .int x10)]) hx hb dL_law_752 hl (by decide) rfl (fun ls hl => ?_)
                exact t_L_law_754 C0 hAs k286 hk286 k305 hk305 kFU w35 x5 x6 x7 x8 x9 x10 t17.1 (0 : Int32) (0 : Int32) w_bb w_m w_v σ34 _ _ _ hXW hP hD hS (lv_sub hl [3, 4, 5, 6, 7, 8, 9, 10, 11, 12, 2, 1, 0] rfl) hrun
              · replace hrun := if_f q36 hrun
                refine lv_iconst (v := 0) hx hb dL_law_746 (by decide) ?_
                exact absurd (Option.some.inj hrun) (by decide)
          · replace hrun := if_f q16 hrun
            refine lv_iconst (v := 0) hx hb dL_law_699 (by decide) ?_
            exact absurd (Option.some.inj hrun) (by decide)
    · replace hrun := if_f q1 hrun
      refine lv_aload_n hx hb dL_law_610 rfl (lv_at hl 1 rfl) ?_
      refine lv_iload hx hb dL_law_611 (lv_at hl 6 rfl) ?_
      refine lv_iload hx hb dL_law_613 (lv_at hl 10 rfl) ?_
      obtain ⟨t37, et37, hrun⟩ := bd_inv hrun
      obtain ⟨σ38, eσ38, hrun⟩ := lt_inv hrun
      obtain ⟨fs9, he9⟩ := XW_head hXW
      refine lw_callVi (wr := [(h_bb, .inl (k_cI G, 21, .inl w_bb)), (h_m, .inl (k_cI G, 7, .inl w_m)), (h_v, .inl (k_cI G, 4, .inl w_v))]) (rest := []) C0 (lx_agree hXW et37 H.size) (cwV 2 hts gL_law_X11_agree rfl rfl rfl e_X11_agree ⟨Nat.le_of_ble_eq_true rfl, Nat.le_of_ble_eq_true rfl⟩) hP hD hS rfl rfl he9 rfl hl.1 rfl (Nat.le_of_ble_eq_true rfl) dL_law_615 ⟨Nat.le_of_ble_eq_true rfl, Nat.le_of_ble_eq_true rfl⟩ (fun w39 H locs hXW hP hD hS => ?_)
      replace hXW : XW G h_o σ38 w39 := by rw [eσ38]; exact hXW
      clear et37 eσ38 he9
      refine lv_aload_n hx hb dL_law_618 rfl (lv_at hl 1 rfl) ?_
      refine lv_iload hx hb dL_law_619 (lv_at hl 6 rfl) ?_
      refine lv_iload hx hb dL_law_621 (lv_at hl 9 rfl) ?_
      refine lv_iload hx hb dL_law_623 (lv_at hl 10 rfl) ?_
      refine lv_isub hx hb dL_law_625 ?_
      obtain ⟨t40, et40, hrun⟩ := bd_inv hrun
      obtain ⟨σ41, eσ41, hrun⟩ := lt_inv hrun
      obtain ⟨fs9, he9⟩ := XW_head hXW
      refine lw_callVi (wr := [(h_bb, .inl (k_cI G, 21, .inl w_bb)), (h_m, .inl (k_cI G, 7, .inl w_m)), (h_v, .inl (k_cI G, 4, .inl w_v))]) (rest := [.int t37.1]) C0 (lx_agree hXW et40 H.size) (cwV 2 hts gL_law_X11_agree rfl rfl rfl e_X11_agree ⟨Nat.le_of_ble_eq_true rfl, Nat.le_of_ble_eq_true rfl⟩) hP hD hS rfl rfl he9 rfl hl.1 rfl (Nat.le_of_ble_eq_true rfl) dL_law_626 ⟨Nat.le_of_ble_eq_true rfl, Nat.le_of_ble_eq_true rfl⟩ (fun w42 H locs hXW hP hD hS => ?_)
      replace hXW : XW G h_o σ41 w42 := by rw [eσ41]; exact hXW
      clear et40 eσ41 he9
      refine lv_icmp_ne (tgt := 645) hx hb dL_law_629 (by decide) (fun q43 => ?_) (fun q43 => ?_)
      · replace hrun := if_f q43 hrun
        refine lv_iconst (v := 0) hx hb dL_law_645 (by decide) ?_
        exact absurd (Option.some.inj hrun) (by decide)
      · replace hrun := if_t q43 hrun
        refine lv_aload_n hx hb dL_law_632 rfl (lv_at hl 1 rfl) ?_
        refine lv_iload hx hb dL_law_633 (lv_at hl 6 rfl) ?_
        refine lv_iload hx hb dL_law_635 (lv_at hl 10 rfl) ?_
        obtain ⟨t44, et44, hrun⟩ := bd_inv hrun
        obtain ⟨σ45, eσ45, hrun⟩ := lt_inv hrun
        obtain ⟨fs9, he9⟩ := XW_head hXW
        refine lw_callVi (wr := [(h_bb, .inl (k_cI G, 21, .inl w_bb)), (h_m, .inl (k_cI G, 7, .inl w_m)), (h_v, .inl (k_cI G, 4, .inl w_v))]) (rest := []) C0 (lx_agree hXW et44 H.size) (cwV 2 hts gL_law_X11_agree rfl rfl rfl e_X11_agree ⟨Nat.le_of_ble_eq_true rfl, Nat.le_of_ble_eq_true rfl⟩) hP hD hS rfl rfl he9 rfl hl.1 rfl (Nat.le_of_ble_eq_true rfl) dL_law_637 ⟨Nat.le_of_ble_eq_true rfl, Nat.le_of_ble_eq_true rfl⟩ (fun w46 H locs hXW hP hD hS => ?_)
        replace hXW : XW G h_o σ45 w46 := by rw [eσ45]; exact hXW
        clear et44 eσ45 he9
        refine lv_iload hx hb dL_law_640 (lv_at hl 9 rfl) ?_
        refine lv_icmp_le (tgt := 647) hx hb dL_law_642 (by decide) (fun q47 => ?_) (fun q47 => ?_)
        · replace hrun := if_t q47 hrun
          refine lv_iinc (v := x12 + 1) (lv' := [(12, .int (x12 + 1)), (0, .ref (k_xB G)), (1, .ref h_o), (3, .ref h_bb), (4, .ref h_v), (5, .int x5), (6, .int x6), (7, .int x7), (8, .int x8), (9, .int x9), (10, .int x10)]) hx hb dL_law_647 hl (k := 10) rfl rfl (by decide) rfl (fun ls hl => ?_)
          refine lv_goto (tgt := 603) hx hb dL_law_650 (by decide) ?_
          exact ih w46 x5 x6 x7 x8 x9 x10 (x12 + 1) w_bb w_m w_v σ45 _ _ _ hXW hP hD hS (lv_sub hl [1, 2, 3, 4, 5, 6, 7, 8, 9, 10, 0] rfl) hrun
        · replace hrun := if_f q47 hrun
          refine lv_iconst (v := 0) hx hb dL_law_645 (by decide) ?_
          exact absurd (Option.some.inj hrun) (by decide)
set_option maxHeartbeats 4000000 in
set_option maxRecDepth 100000 in
theorem t_L_law_516 {l : Launch} {G : k_G} {p : Program} {e : Env} {s : State} {m : MethodId} {b : Nat} {below : List Frame} {meth : Method} {c : Code} {A : Nat → Prop} {h_bb h_m h_v h_o : Nat} (C0 : k_C G p s m #[Value.ref b] meth c A code RL lw_tbl 21 (some .boolean) meth.name) (hAs : ∀ q, A q → s.heap.size ≤ q) (k286 : Int32 → (Nat → Int32) → (Nat → Int32) → (Nat → Int32) → k_SB → Option (Int32)) (hk286 : ∀ (w : va_W) (x5 : Int32) (w_bb : Nat → Int32) (w_m : Nat → Int32) (w_v : Nat → Int32) (σ : k_SB) (H : Heap) (locs : List Loc) (ls : Array Slot), XW G h_o σ w → va_P G.1 vwCl ([(h_bb, .inl (k_cI G, 21, .inl w_bb)), (h_m, .inl (k_cI G, 7, .inl w_m)), (h_v, .inl (k_cI G, 4, .inl w_v))] ++ w) H → va_D A ([(h_bb, .inl (k_cI G, 21, .inl w_bb)), (h_m, .inl (k_cI G, 7, .inl w_m)), (h_v, .inl (k_cI G, 4, .inl w_v))] ++ w) → va_S A s.heap H locs → lv_has ls 21 [(0, .ref (k_xB G)), (1, .ref h_o), (3, .ref h_bb), (4, .ref h_v), (5, .int x5)] → k286 x5 w_bb w_m w_v σ = some (1 : Int32) → W p l e room_1 s m #[Value.ref b] below meth c H locs 44 13141 (lw_Z below #[Value.ref b] s) (F0 m 286 ls [])) (k305 : Int32 → Int32 → Int32 → (Nat → Int32) → (Nat → Int32) → (Nat → Int32) → k_SB → Option (Int32)) (hk305 : ∀ (w : va_W) (x5 : Int32) (x6 : Int32) (x7 : Int32) (w_bb : Nat → Int32) (w_m : Nat → Int32) (w_v : Nat → Int32) (σ : k_SB) (H : Heap) (locs : List Loc) (ls : Array Slot), XW G h_o σ w → va_P G.1 vwCl ([(h_bb, .inl (k_cI G, 21, .inl w_bb)), (h_m, .inl (k_cI G, 7, .inl w_m)), (h_v, .inl (k_cI G, 4, .inl w_v))] ++ w) H → va_D A ([(h_bb, .inl (k_cI G, 21, .inl w_bb)), (h_m, .inl (k_cI G, 7, .inl w_m)), (h_v, .inl (k_cI G, 4, .inl w_v))] ++ w) → va_S A s.heap H locs → lv_has ls 21 [(0, .ref (k_xB G)), (1, .ref h_o), (3, .ref h_bb), (4, .ref h_v), (5, .int x5), (6, .int x6), (7, .int x7)] → k305 x5 x6 x7 w_bb w_m w_v σ = some (1 : Int32) → W p l e room_1 s m #[Value.ref b] below meth c H locs 44 13141 (lw_Z below #[Value.ref b] s) (F0 m 305 ls [])) : ∀ (n : Nat) (w : va_W) (x5 : Int32) (x6 : Int32) (x7 : Int32) (x8 : Int32) (x9 : Int32) (x10 : Int32) (x12 : Int32) (w_bb : Nat → Int32) (w_m : Nat → Int32) (w_v : Nat → Int32) (σ : k_SB) (H : Heap) (locs : List Loc) (ls : Array Slot), XW G h_o σ w → va_P G.1 vwCl ([(h_bb, .inl (k_cI G, 21, .inl w_bb)), (h_m, .inl (k_cI G, 7, .inl w_m)), (h_v, .inl (k_cI G, 4, .inl w_v))] ++ w) H → va_D A ([(h_bb, .inl (k_cI G, 21, .inl w_bb)), (h_m, .inl (k_cI G, 7, .inl w_m)), (h_v, .inl (k_cI G, 4, .inl w_v))] ++ w) → va_S A s.heap H locs → lv_has ls 21 [(0, .ref (k_xB G)), (1, .ref h_o), (3, .ref h_bb), (4, .ref h_v), (5, .int x5), (6, .int x6), (7, .int x7), (8, .int x8), (9, .int x9), (10, .int x10), (12, .int x12)] → f_L_law_516 (k_xL G) (k_xs G) k286 k305 n x5 x6 x7 x8 x9 x10 x12 w_bb w_m w_v σ = some (1 : Int32) → W p l e room_1 s m #[Value.ref b] below meth c H locs 44 13141 (lw_Z below #[Value.ref b] s) (F0 m 516 ls []) := by
  have hx := C0.1
  have hb := C0.2.1
  have hts := C0.2.2.2.1
  have hown := C0.2.2.2.2.1
  have hK := C0.2.2.2.2.2.2.2.2.1.1
  have hNW := C0.2.2.2.2.2.2.2.2.1.2.1
  have hSF := C0.2.2.2.2.2.2.2.2.1.2.2
  intro n
  induction n with
  | zero =>
    intro w x5 x6 x7 x8 x9 x10 x12 w_bb w_m w_v σ H locs ls hXW hP hD hS hl hrun
    rw [f_L_law_516] at hrun
    cases hrun
  | succ n ih =>
    intro w x5 x6 x7 x8 x9 x10 x12 w_bb w_m w_v σ H locs ls hXW hP hD hS hl hrun
    rw [f_L_law_516] at hrun
    refine lv_iload hx hb dL_law_516 (lv_at hl 10 rfl) ?_
    refine lv_bipush (v := 34) hx hb dL_law_518 (by decide) ?_
    refine lv_icmp_ge (tgt := 600) hx hb dL_law_520 (by decide) (fun q1 => ?_) (fun q1 => ?_)
    · replace hrun := if_t q1 hrun
      refine lv_iconst (v := 1) hx hb dL_law_600 (by decide) ?_
      refine lv_istore (lv' := [(12, .int (1 : Int32)), (0, .ref (k_xB G)), (1, .ref h_o), (3, .ref h_bb), (4, .ref h_v), (5, .int x5), (6, .int x6), (7, .int x7), (8, .int x8), (9, .int x9), (10, .int x10)]) hx hb dL_law_601 hl (by decide) rfl (fun ls hl => ?_)
      exact t_L_law_603 C0 hAs k286 hk286 k305 hk305 kFU w x5 x6 x7 x8 x9 x10 (1 : Int32) w_bb w_m w_v σ _ _ _ hXW hP hD hS (lv_sub hl [1, 2, 3, 4, 5, 6, 7, 8, 9, 10, 0] rfl) hrun
    · replace hrun := if_f q1 hrun
      refine lv_aload_n hx hb dL_law_523 rfl (lv_at hl 1 rfl) ?_
      refine lv_iload hx hb dL_law_524 (lv_at hl 6 rfl) ?_
      refine lv_iload hx hb dL_law_526 (lv_at hl 10 rfl) ?_
      obtain ⟨t2, et2, hrun⟩ := bd_inv hrun
      obtain ⟨σ3, eσ3, hrun⟩ := lt_inv hrun
      obtain ⟨fs9, he9⟩ := XW_head hXW
      refine lw_callVi (wr := [(h_bb, .inl (k_cI G, 21, .inl w_bb)), (h_m, .inl (k_cI G, 7, .inl w_m)), (h_v, .inl (k_cI G, 4, .inl w_v))]) (rest := []) C0 (lx_layer hXW et2 H.size) (cwV 2 hts gL_law_X11_layer rfl rfl rfl e_X11_layer ⟨Nat.le_of_ble_eq_true rfl, Nat.le_of_ble_eq_true rfl⟩) hP hD hS rfl rfl he9 rfl hl.1 rfl (Nat.le_of_ble_eq_true rfl) dL_law_528 ⟨Nat.le_of_ble_eq_true rfl, Nat.le_of_ble_eq_true rfl⟩ (fun w4 H locs hXW hP hD hS => ?_)
      replace hXW : XW G h_o σ3 w4 := by rw [eσ3]; exact hXW
      clear et2 eσ3 he9
      refine lv_aload_n hx hb dL_law_531 rfl (lv_at hl 1 rfl) ?_
      refine lv_iload hx hb dL_law_532 (lv_at hl 6 rfl) ?_
      refine lv_iload hx hb dL_law_534 (lv_at hl 10 rfl) ?_
      refine lv_iconst (v := 1) hx hb dL_law_536 (by decide) ?_
      refine lv_iadd hx hb dL_law_537 ?_
      obtain ⟨t5, et5, hrun⟩ := bd_inv hrun
      obtain ⟨σ6, eσ6, hrun⟩ := lt_inv hrun
      obtain ⟨fs9, he9⟩ := XW_head hXW
      refine lw_callVi (wr := [(h_bb, .inl (k_cI G, 21, .inl w_bb)), (h_m, .inl (k_cI G, 7, .inl w_m)), (h_v, .inl (k_cI G, 4, .inl w_v))]) (rest := [.int t2.1]) C0 (lx_layer hXW et5 H.size) (cwV 2 hts gL_law_X11_layer rfl rfl rfl e_X11_layer ⟨Nat.le_of_ble_eq_true rfl, Nat.le_of_ble_eq_true rfl⟩) hP hD hS rfl rfl he9 rfl hl.1 rfl (Nat.le_of_ble_eq_true rfl) dL_law_538 ⟨Nat.le_of_ble_eq_true rfl, Nat.le_of_ble_eq_true rfl⟩ (fun w7 H locs hXW hP hD hS => ?_)
      replace hXW : XW G h_o σ6 w7 := by rw [eσ6]; exact hXW
      clear et5 eσ6 he9
      refine lv_icmp_eq (tgt := 592) hx hb dL_law_541 (by decide) (fun q8 => ?_) (fun q8 => ?_)
      · replace hrun := if_t q8 hrun
        refine lv_iconst (v := 0) hx hb dL_law_592 (by decide) ?_
        exact absurd (Option.some.inj hrun) (by decide)
      · replace hrun := if_f q8 hrun
        refine lv_aload_n hx hb dL_law_544 rfl (lv_at hl 1 rfl) ?_
        refine lv_iload hx hb dL_law_545 (lv_at hl 6 rfl) ?_
        refine lv_iload hx hb dL_law_547 (lv_at hl 10 rfl) ?_
        refine lv_iconst (v := 1) hx hb dL_law_549 (by decide) ?_
        refine lv_iadd hx hb dL_law_550 ?_
        obtain ⟨t9, et9, hrun⟩ := bd_inv hrun
        obtain ⟨σ10, eσ10, hrun⟩ := lt_inv hrun
        obtain ⟨fs9, he9⟩ := XW_head hXW
        refine lw_callVi (wr := [(h_bb, .inl (k_cI G, 21, .inl w_bb)), (h_m, .inl (k_cI G, 7, .inl w_m)), (h_v, .inl (k_cI G, 4, .inl w_v))]) (rest := []) C0 (lx_hex hXW et9 H.size) (cwV 2 hts gL_law_X11_hex rfl rfl rfl e_X11_hex ⟨Nat.le_of_ble_eq_true rfl, Nat.le_of_ble_eq_true rfl⟩) hP hD hS rfl rfl he9 rfl hl.1 rfl (Nat.le_of_ble_eq_true rfl) dL_law_551 ⟨Nat.le_of_ble_eq_true rfl, Nat.le_of_ble_eq_true rfl⟩ (fun w11 H locs hXW hP hD hS => ?_)
        replace hXW : XW G h_o σ10 w11 := by rw [eσ10]; exact hXW
        clear et9 eσ10 he9
        refine lv_iconst (v := 1) hx hb dL_law_554 (by decide) ?_
        refine lv_icmp_ne (tgt := 562) hx hb dL_law_555 (by decide) (fun q12 => ?_) (fun q12 => ?_)
        · replace hrun := if_f q12 hrun
          refine lv_iconst (v := 0) hx hb dL_law_562 (by decide) ?_
          exact t_L_law_563 C0 hAs k286 hk286 k305 hk305 (fun x5 x6 x7 x8 x9 x10 x12 w_bb w_m w_v σ => f_L_law_516 (k_xL G) (k_xs G) k286 k305 n x5 x6 x7 x8 x9 x10 x12 w_bb w_m w_v σ) ih w11 x5 x6 x7 x8 x9 x10 x12 (0 : Int32) w_bb w_m w_v σ10 _ _ _ hXW hP hD hS hl hrun
        · replace hrun := if_t q12 hrun
          refine lv_iconst (v := 1) hx hb dL_law_558 (by decide) ?_
          refine lv_goto (tgt := 563) hx hb dL_law_559 (by decide) ?_
          exact t_L_law_563 C0 hAs k286 hk286 k305 hk305 (fun x5 x6 x7 x8 x9 x10 x12 w_bb w_m w_v σ => f_L_law_516 (k_xL G) (k_xs G) k286 k305 n x5 x6 x7 x8 x9 x10 x12 w_bb w_m w_v σ) ih w11 x5 x6 x7 x8 x9 x10 x12 (1 : Int32) w_bb w_m w_v σ10 _ _ _ hXW hP hD hS hl hrun
set_option maxHeartbeats 4000000 in
set_option maxRecDepth 100000 in
theorem t_L_law_513 {l : Launch} {G : k_G} {p : Program} {e : Env} {s : State} {m : MethodId} {b : Nat} {below : List Frame} {meth : Method} {c : Code} {A : Nat → Prop} {h_bb h_m h_v h_o : Nat} (C0 : k_C G p s m #[Value.ref b] meth c A code RL lw_tbl 21 (some .boolean) meth.name) (hAs : ∀ q, A q → s.heap.size ≤ q) (k286 : Int32 → (Nat → Int32) → (Nat → Int32) → (Nat → Int32) → k_SB → Option (Int32)) (hk286 : ∀ (w : va_W) (x5 : Int32) (w_bb : Nat → Int32) (w_m : Nat → Int32) (w_v : Nat → Int32) (σ : k_SB) (H : Heap) (locs : List Loc) (ls : Array Slot), XW G h_o σ w → va_P G.1 vwCl ([(h_bb, .inl (k_cI G, 21, .inl w_bb)), (h_m, .inl (k_cI G, 7, .inl w_m)), (h_v, .inl (k_cI G, 4, .inl w_v))] ++ w) H → va_D A ([(h_bb, .inl (k_cI G, 21, .inl w_bb)), (h_m, .inl (k_cI G, 7, .inl w_m)), (h_v, .inl (k_cI G, 4, .inl w_v))] ++ w) → va_S A s.heap H locs → lv_has ls 21 [(0, .ref (k_xB G)), (1, .ref h_o), (3, .ref h_bb), (4, .ref h_v), (5, .int x5)] → k286 x5 w_bb w_m w_v σ = some (1 : Int32) → W p l e room_1 s m #[Value.ref b] below meth c H locs 44 13141 (lw_Z below #[Value.ref b] s) (F0 m 286 ls [])) (k305 : Int32 → Int32 → Int32 → (Nat → Int32) → (Nat → Int32) → (Nat → Int32) → k_SB → Option (Int32)) (hk305 : ∀ (w : va_W) (x5 : Int32) (x6 : Int32) (x7 : Int32) (w_bb : Nat → Int32) (w_m : Nat → Int32) (w_v : Nat → Int32) (σ : k_SB) (H : Heap) (locs : List Loc) (ls : Array Slot), XW G h_o σ w → va_P G.1 vwCl ([(h_bb, .inl (k_cI G, 21, .inl w_bb)), (h_m, .inl (k_cI G, 7, .inl w_m)), (h_v, .inl (k_cI G, 4, .inl w_v))] ++ w) H → va_D A ([(h_bb, .inl (k_cI G, 21, .inl w_bb)), (h_m, .inl (k_cI G, 7, .inl w_m)), (h_v, .inl (k_cI G, 4, .inl w_v))] ++ w) → va_S A s.heap H locs → lv_has ls 21 [(0, .ref (k_xB G)), (1, .ref h_o), (3, .ref h_bb), (4, .ref h_v), (5, .int x5), (6, .int x6), (7, .int x7)] → k305 x5 x6 x7 w_bb w_m w_v σ = some (1 : Int32) → W p l e room_1 s m #[Value.ref b] below meth c H locs 44 13141 (lw_Z below #[Value.ref b] s) (F0 m 305 ls [])) : ∀ (w : va_W) (x5 : Int32) (x6 : Int32) (x7 : Int32) (x8 : Int32) (x9 : Int32) (x10 : Int32) (w_bb : Nat → Int32) (w_m : Nat → Int32) (w_v : Nat → Int32) (σ : k_SB) (H : Heap) (locs : List Loc) (ls : Array Slot), XW G h_o σ w → va_P G.1 vwCl ([(h_bb, .inl (k_cI G, 21, .inl w_bb)), (h_m, .inl (k_cI G, 7, .inl w_m)), (h_v, .inl (k_cI G, 4, .inl w_v))] ++ w) H → va_D A ([(h_bb, .inl (k_cI G, 21, .inl w_bb)), (h_m, .inl (k_cI G, 7, .inl w_m)), (h_v, .inl (k_cI G, 4, .inl w_v))] ++ w) → va_S A s.heap H locs → lv_has ls 21 [(0, .ref (k_xB G)), (1, .ref h_o), (3, .ref h_bb), (4, .ref h_v), (5, .int x5), (6, .int x6), (7, .int x7), (8, .int x8), (9, .int x9), (10, .int x10)] → f_L_law_513 (k_xL G) (k_xs G) k286 k305 x5 x6 x7 x8 x9 x10 w_bb w_m w_v σ = some (1 : Int32) → W p l e room_1 s m #[Value.ref b] below meth c H locs 44 13141 (lw_Z below #[Value.ref b] s) (F0 m 513 ls []) := by
  have hx := C0.1
  have hb := C0.2.1
  have hts := C0.2.2.2.1
  have hown := C0.2.2.2.2.1
  have hK := C0.2.2.2.2.2.2.2.2.1.1
  have hNW := C0.2.2.2.2.2.2.2.2.1.2.1
  have hSF := C0.2.2.2.2.2.2.2.2.1.2.2
  intro w x5 x6 x7 x8 x9 x10 w_bb w_m w_v σ H locs ls hXW hP hD hS hl hrun
  rw [f_L_law_513] at hrun
  refine lv_iconst (v := 0) hx hb dL_law_513 (by decide) ?_
  refine lv_istore (lv' := [(12, .int (0 : Int32)), (0, .ref (k_xB G)), (1, .ref h_o), (3, .ref h_bb), (4, .ref h_v), (5, .int x5), (6, .int x6), (7, .int x7), (8, .int x8), (9, .int x9), (10, .int x10)]) hx hb dL_law_514 hl (by decide) rfl (fun ls hl => ?_)
  exact t_L_law_516 C0 hAs k286 hk286 k305 hk305 kFU w x5 x6 x7 x8 x9 x10 (0 : Int32) w_bb w_m w_v σ _ _ _ hXW hP hD hS (lv_sub hl [1, 2, 3, 4, 5, 6, 7, 8, 9, 10, 0] rfl) hrun
set_option maxHeartbeats 4000000 in
set_option maxRecDepth 100000 in
theorem t_L_law_488 {l : Launch} {G : k_G} {p : Program} {e : Env} {s : State} {m : MethodId} {b : Nat} {below : List Frame} {meth : Method} {c : Code} {A : Nat → Prop} {h_bb h_m h_v h_o : Nat} (C0 : k_C G p s m #[Value.ref b] meth c A code RL lw_tbl 21 (some .boolean) meth.name) (hAs : ∀ q, A q → s.heap.size ≤ q) (k286 : Int32 → (Nat → Int32) → (Nat → Int32) → (Nat → Int32) → k_SB → Option (Int32)) (hk286 : ∀ (w : va_W) (x5 : Int32) (w_bb : Nat → Int32) (w_m : Nat → Int32) (w_v : Nat → Int32) (σ : k_SB) (H : Heap) (locs : List Loc) (ls : Array Slot), XW G h_o σ w → va_P G.1 vwCl ([(h_bb, .inl (k_cI G, 21, .inl w_bb)), (h_m, .inl (k_cI G, 7, .inl w_m)), (h_v, .inl (k_cI G, 4, .inl w_v))] ++ w) H → va_D A ([(h_bb, .inl (k_cI G, 21, .inl w_bb)), (h_m, .inl (k_cI G, 7, .inl w_m)), (h_v, .inl (k_cI G, 4, .inl w_v))] ++ w) → va_S A s.heap H locs → lv_has ls 21 [(0, .ref (k_xB G)), (1, .ref h_o), (3, .ref h_bb), (4, .ref h_v), (5, .int x5)] → k286 x5 w_bb w_m w_v σ = some (1 : Int32) → W p l e room_1 s m #[Value.ref b] below meth c H locs 44 13141 (lw_Z below #[Value.ref b] s) (F0 m 286 ls [])) (k305 : Int32 → Int32 → Int32 → (Nat → Int32) → (Nat → Int32) → (Nat → Int32) → k_SB → Option (Int32)) (hk305 : ∀ (w : va_W) (x5 : Int32) (x6 : Int32) (x7 : Int32) (w_bb : Nat → Int32) (w_m : Nat → Int32) (w_v : Nat → Int32) (σ : k_SB) (H : Heap) (locs : List Loc) (ls : Array Slot), XW G h_o σ w → va_P G.1 vwCl ([(h_bb, .inl (k_cI G, 21, .inl w_bb)), (h_m, .inl (k_cI G, 7, .inl w_m)), (h_v, .inl (k_cI G, 4, .inl w_v))] ++ w) H → va_D A ([(h_bb, .inl (k_cI G, 21, .inl w_bb)), (h_m, .inl (k_cI G, 7, .inl w_m)), (h_v, .inl (k_cI G, 4, .inl w_v))] ++ w) → va_S A s.heap H locs → lv_has ls 21 [(0, .ref (k_xB G)), (1, .ref h_o), (3, .ref h_bb), (4, .ref h_v), (5, .int x5), (6, .int x6), (7, .int x7)] → k305 x5 x6 x7 w_bb w_m w_v σ = some (1 : Int32) → W p l e room_1 s m #[Value.ref b] below meth c H locs 44 13141 (lw_Z below #[Value.ref b] s) (F0 m 305 ls [])) : ∀ (w : va_W) (x5 : Int32) (x6 : Int32) (x7 : Int32) (x8 : Int32) (x9 : Int32) (x10 : Int32) (w_bb : Nat → Int32) (w_m : Nat → Int32) (w_v : Nat → Int32) (σ : k_SB) (H : Heap) (locs : List Loc) (ls : Array Slot), XW G h_o σ w → va_P G.1 vwCl ([(h_bb, .inl (k_cI G, 21, .inl w_bb)), (h_m, .inl (k_cI G, 7, .inl w_m)), (h_v, .inl (k_cI G, 4, .inl w_v))] ++ w) H → va_D A ([(h_bb, .inl (k_cI G, 21, .inl w_bb)), (h_m, .inl (k_cI G, 7, .inl w_m)), (h_v, .inl (k_cI G, 4, .inl w_v))] ++ w) → va_S A s.heap H locs → lv_has ls 21 [(0, .ref (k_xB G)), (1, .ref h_o), (3, .ref h_bb), (4, .ref h_v), (5, .int x5), (6, .int x6), (7, .int x7), (8, .int x8), (9, .int x9), (10, .int x10)] → f_L_law_488 (k_xL G) (k_xs G) k286 k305 x5 x6 x7 x8 x9 x10 w_bb w_m w_v σ = some (1 : Int32) → W p l e room_1 s m #[Value.ref b] below meth c H locs 44 13141 (lw_Z below #[Value.ref b] s) (F0 m 488 ls []) := by
  have hx := C0.1
  have hb := C0.2.1
  have hts := C0.2.2.2.1
  have hown := C0.2.2.2.2.1
  have hK := C0.2.2.2.2.2.2.2.2.1.1
  have hNW := C0.2.2.2.2.2.2.2.2.1.2.1
  have hSF := C0.2.2.2.2.2.2.2.2.1.2.2
  intro w x5 x6 x7 x8 x9 x10 w_bb w_m w_v σ H locs ls hXW hP hD hS hl hrun
  rw [f_L_law_488] at hrun
  refine lv_aload_n hx hb dL_law_488 rfl (lv_at hl 1 rfl) ?_
  refine lv_iload hx hb dL_law_489 (lv_at hl 6 rfl) ?_
  refine lv_iconst (v := 5) hx hb dL_law_491 (by decide) ?_
  obtain ⟨t1, et1, hrun⟩ := bd_inv hrun
  obtain ⟨σ2, eσ2, hrun⟩ := lt_inv hrun
  obtain ⟨fs9, he9⟩ := XW_head hXW
  refine lw_callVi (wr := [(h_bb, .inl (k_cI G, 21, .inl w_bb)), (h_m, .inl (k_cI G, 7, .inl w_m)), (h_v, .inl (k_cI G, 4, .inl w_v))]) (rest := []) C0 (lx_stack hXW et1 H.size) (cwV 2 hts gL_law_X11_stack rfl rfl rfl e_X11_stack ⟨Nat.le_of_ble_eq_true rfl, Nat.le_of_ble_eq_true rfl⟩) hP hD hS rfl rfl he9 rfl hl.1 rfl (Nat.le_of_ble_eq_true rfl) dL_law_492 ⟨Nat.le_of_ble_eq_true rfl, Nat.le_of_ble_eq_true rfl⟩ (fun w3 H locs hXW hP hD hS => ?_)
  replace hXW : XW G h_o σ2 w3 := by rw [eσ2]; exact hXW
  clear et1 eσ2 he9
  refine lv_iconst (v := 1) hx hb dL_law_495 (by decide) ?_
  refine lv_icmp_le (tgt := 513) hx hb dL_law_496 (by decide) (fun q4 => ?_) (fun q4 => ?_)
  · replace hrun := if_t q4 hrun
    exact t_L_law_513 C0 hAs k286 hk286 k305 hk305 w3 x5 x6 x7 x8 x9 x10 w_bb w_m w_v σ2 _ _ _ hXW hP hD hS hl hrun
  · replace hrun := if_f q4 hrun
    refine lv_aload_n hx hb dL_law_499 rfl (lv_at hl 1 rfl) ?_
    refine lv_iload hx hb dL_law_500 (lv_at hl 6 rfl) ?_
    refine lv_iconst (v := 5) hx hb dL_law_502 (by decide) ?_
    obtain ⟨t5, et5, hrun⟩ := bd_inv hrun
    obtain ⟨σ6, eσ6, hrun⟩ := lt_inv hrun
    obtain ⟨fs9, he9⟩ := XW_head hXW
    refine lw_callVi (wr := [(h_bb, .inl (k_cI G, 21, .inl w_bb)), (h_m, .inl (k_cI G, 7, .inl w_m)), (h_v, .inl (k_cI G, 4, .inl w_v))]) (rest := []) C0 (lx_stack hXW et5 H.size) (cwV 2 hts gL_law_X11_stack rfl rfl rfl e_X11_stack ⟨Nat.le_of_ble_eq_true rfl, Nat.le_of_ble_eq_true rfl⟩) hP hD hS rfl rfl he9 rfl hl.1 rfl (Nat.le_of_ble_eq_true rfl) dL_law_503 ⟨Nat.le_of_ble_eq_true rfl, Nat.le_of_ble_eq_true rfl⟩ (fun w7 H locs hXW hP hD hS => ?_)
    replace hXW : XW G h_o σ6 w7 := by rw [eσ6]; exact hXW
    clear et5 eσ6 he9
    refine lv_iconst (v := 2) hx hb dL_law_506 (by decide) ?_
    refine lv_irem hx hb dL_law_507 (by decide) ?_
    refine lv_if_eq (tgt := 513) hx hb dL_law_508 (by decide) (fun q8 => ?_) (fun q8 => ?_)
    · replace hrun := if_t q8 hrun
      exact t_L_law_513 C0 hAs k286 hk286 k305 hk305 w7 x5 x6 x7 x8 x9 x10 w_bb w_m w_v σ6 _ _ _ hXW hP hD hS hl hrun
    · replace hrun := if_f q8 hrun
      refine lv_iconst (v := 0) hx hb dL_law_511 (by decide) ?_
      exact absurd (Option.some.inj hrun) (by decide)
set_option maxHeartbeats 4000000 in
set_option maxRecDepth 100000 in
theorem t_L_law_422 {l : Launch} {G : k_G} {p : Program} {e : Env} {s : State} {m : MethodId} {b : Nat} {below : List Frame} {meth : Method} {c : Code} {A : Nat → Prop} {h_bb h_m h_v h_o : Nat} (C0 : k_C G p s m #[Value.ref b] meth c A code RL lw_tbl 21 (some .boolean) meth.name) (hAs : ∀ q, A q → s.heap.size ≤ q) (k286 : Int32 → (Nat → Int32) → (Nat → Int32) → (Nat → Int32) → k_SB → Option (Int32)) (hk286 : ∀ (w : va_W) (x5 : Int32) (w_bb : Nat → Int32) (w_m : Nat → Int32) (w_v : Nat → Int32) (σ : k_SB) (H : Heap) (locs : List Loc) (ls : Array Slot), XW G h_o σ w → va_P G.1 vwCl ([(h_bb, .inl (k_cI G, 21, .inl w_bb)), (h_m, .inl (k_cI G, 7, .inl w_m)), (h_v, .inl (k_cI G, 4, .inl w_v))] ++ w) H → va_D A ([(h_bb, .inl (k_cI G, 21, .inl w_bb)), (h_m, .inl (k_cI G, 7, .inl w_m)), (h_v, .inl (k_cI G, 4, .inl w_v))] ++ w) → va_S A s.heap H locs → lv_has ls 21 [(0, .ref (k_xB G)), (1, .ref h_o), (3, .ref h_bb), (4, .ref h_v), (5, .int x5)] → k286 x5 w_bb w_m w_v σ = some (1 : Int32) → W p l e room_1 s m #[Value.ref b] below meth c H locs 44 13141 (lw_Z below #[Value.ref b] s) (F0 m 286 ls [])) (k305 : Int32 → Int32 → Int32 → (Nat → Int32) → (Nat → Int32) → (Nat → Int32) → k_SB → Option (Int32)) (hk305 : ∀ (w : va_W) (x5 : Int32) (x6 : Int32) (x7 : Int32) (w_bb : Nat → Int32) (w_m : Nat → Int32) (w_v : Nat → Int32) (σ : k_SB) (H : Heap) (locs : List Loc) (ls : Array Slot), XW G h_o σ w → va_P G.1 vwCl ([(h_bb, .inl (k_cI G, 21, .inl w_bb)), (h_m, .inl (k_cI G, 7, .inl w_m)), (h_v, .inl (k_cI G, 4, .inl w_v))] ++ w) H → va_D A ([(h_bb, .inl (k_cI G, 21, .inl w_bb)), (h_m, .inl (k_cI G, 7, .inl w_m)), (h_v, .inl (k_cI G, 4, .inl w_v))] ++ w) → va_S A s.heap H locs → lv_has ls 21 [(0, .ref (k_xB G)), (1, .ref h_o), (3, .ref h_bb), (4, .ref h_v), (5, .int x5), (6, .int x6), (7, .int x7)] → k305 x5 x6 x7 w_bb w_m w_v σ = some (1 : Int32) → W p l e room_1 s m #[Value.ref b] below meth c H locs 44 13141 (lw_Z below #[Value.ref b] s) (F0 m 305 ls [])) : ∀ (n : Nat) (w : va_W) (x5 : Int32) (x6 : Int32) (x7 : Int32) (x8 : Int32) (x9 : Int32) (x10 : Int32) (x11 : Int32) (x12 : Int32) (w_bb : Nat → Int32) (w_m : Nat → Int32) (w_v : Nat → Int32) (σ : k_SB) (H : Heap) (locs : List Loc) (ls : Array Slot), XW G h_o σ w → va_P G.1 vwCl ([(h_bb, .inl (k_cI G, 21, .inl w_bb)), (h_m, .inl (k_cI G, 7, .inl w_m)), (h_v, .inl (k_cI G, 4, .inl w_v))] ++ w) H → va_D A ([(h_bb, .inl (k_cI G, 21, .inl w_bb)), (h_m, .inl (k_cI G, 7, .inl w_m)), (h_v, .inl (k_cI G, 4, .inl w_v))] ++ w) → va_S A s.heap H locs → lv_has ls 21 [(0, .ref (k_xB G)), (1, .ref h_o), (3, .ref h_bb), (4, .ref h_v), (5, .int x5), (6, .int x6), (7, .int x7), (8, .int x8), (9, .int x9), (10, .int x10), (11, .int x11), (12, .int x12)] → f_L_law_422 (k_xL G) (k_xs G) k286 k305 n x5 x6 x7 x8 x9 x10 x11 x12 w_bb w_m w_v σ = some (1 : Int32) → W p l e room_1 s m #[Value.ref b] below meth c H locs 44 13141 (lw_Z below #[Value.ref b] s) (F0 m 422 ls []) := by
  have hx := C0.1
  have hb := C0.2.1
  have hts := C0.2.2.2.1
  have hown := C0.2.2.2.2.1
  have hK := C0.2.2.2.2.2.2.2.2.1.1
  have hNW := C0.2.2.2.2.2.2.2.2.1.2.1
  have hSF := C0.2.2.2.2.2.2.2.2.1.2.2
  intro n
  induction n with
  | zero =>
    intro w x5 x6 x7 x8 x9 x10 x11 x12 w_bb w_m w_v σ H locs ls hXW hP hD hS hl hrun
    rw [f_L_law_422] at hrun
    cases hrun
  | succ n ih =>
    intro w x5 x6 x7 x8 x9 x10 x11 x12 w_bb w_m w_v σ H locs ls hXW hP hD hS hl hrun
    rw [f_L_law_422] at hrun
    refine lv_iload hx hb dL_law_422 (lv_at hl 11 rfl) ?_
    refine lv_aload_n hx hb dL_law_424 rfl (lv_at hl 1 rfl) ?_
    refine lv_iload hx hb dL_law_425 (lv_at hl 6 rfl) ?_
    refine lv_iconst (v := 5) hx hb dL_law_427 (by decide) ?_
    obtain ⟨t1, et1, hrun⟩ := bd_inv hrun
    obtain ⟨σ2, eσ2, hrun⟩ := lt_inv hrun
    obtain ⟨fs9, he9⟩ := XW_head hXW
    refine lw_callVi (wr := [(h_bb, .inl (k_cI G, 21, .inl w_bb)), (h_m, .inl (k_cI G, 7, .inl w_m)), (h_v, .inl (k_cI G, 4, .inl w_v))]) (rest := [.int x12]) C0 (lx_stack hXW et1 H.size) (cwV 2 hts gL_law_X11_stack rfl rfl rfl e_X11_stack ⟨Nat.le_of_ble_eq_true rfl, Nat.le_of_ble_eq_true rfl⟩) hP hD hS rfl rfl he9 rfl hl.1 rfl (Nat.le_of_ble_eq_true rfl) dL_law_428 ⟨Nat.le_of_ble_eq_true rfl, Nat.le_of_ble_eq_true rfl⟩ (fun w3 H locs hXW hP hD hS => ?_)
    replace hXW : XW G h_o σ2 w3 := by rw [eσ2]; exact hXW
    clear et1 eσ2 he9
    refine lv_icmp_ge (tgt := 453) hx hb dL_law_431 (by decide) (fun q4 => ?_) (fun q4 => ?_)
    · replace hrun := if_t q4 hrun
      refine lv_iload hx hb dL_law_453 (lv_at hl 10 rfl) ?_
      refine lv_iload hx hb dL_law_455 (lv_at hl 7 rfl) ?_
      refine lv_icmp_ne (tgt := 511) hx hb dL_law_457 (by decide) (fun q5 => ?_) (fun q5 => ?_)
      · replace hrun := if_f q5 hrun
        refine lv_iconst (v := 0) hx hb dL_law_511 (by decide) ?_
        exact absurd (Option.some.inj hrun) (by decide)
      · replace hrun := if_t q5 hrun
        refine lv_aload_n hx hb dL_law_460 rfl (lv_at hl 1 rfl) ?_
        refine lv_iload hx hb dL_law_461 (lv_at hl 6 rfl) ?_
        refine lv_iconst (v := 5) hx hb dL_law_463 (by decide) ?_
        obtain ⟨t6, et6, hrun⟩ := bd_inv hrun
        obtain ⟨σ7, eσ7, hrun⟩ := lt_inv hrun
        obtain ⟨fs9, he9⟩ := XW_head hXW
        refine lw_callVi (wr := [(h_bb, .inl (k_cI G, 21, .inl w_bb)), (h_m, .inl (k_cI G, 7, .inl w_m)), (h_v, .inl (k_cI G, 4, .inl w_v))]) (rest := []) C0 (lx_stack hXW et6 H.size) (cwV 2 hts gL_law_X11_stack rfl rfl rfl e_X11_stack ⟨Nat.le_of_ble_eq_true rfl, Nat.le_of_ble_eq_true rfl⟩) hP hD hS rfl rfl he9 rfl hl.1 rfl (Nat.le_of_ble_eq_true rfl) dL_law_464 ⟨Nat.le_of_ble_eq_true rfl, Nat.le_of_ble_eq_true rfl⟩ (fun w8 H locs hXW hP hD hS => ?_)
        replace hXW : XW G h_o σ7 w8 := by rw [eσ7]; exact hXW
        clear et6 eσ7 he9
        refine lv_iconst (v := 1) hx hb dL_law_467 (by decide) ?_
        refine lv_icmp_le (tgt := 488) hx hb dL_law_468 (by decide) (fun q9 => ?_) (fun q9 => ?_)
        · replace hrun := if_t q9 hrun
          exact t_L_law_488 C0 hAs k286 hk286 k305 hk305 w8 x5 x6 x7 x8 x9 x10 w_bb w_m w_v σ7 _ _ _ hXW hP hD hS (lv_sub hl [0, 1, 2, 3, 4, 5, 6, 7, 8, 9] rfl) hrun
        · replace hrun := if_f q9 hrun
          refine lv_aload_n hx hb dL_law_471 rfl (lv_at hl 1 rfl) ?_
          refine lv_iload hx hb dL_law_472 (lv_at hl 6 rfl) ?_
          refine lv_iconst (v := 5) hx hb dL_law_474 (by decide) ?_
          obtain ⟨t10, et10, hrun⟩ := bd_inv hrun
          obtain ⟨σ11, eσ11, hrun⟩ := lt_inv hrun
          obtain ⟨fs9, he9⟩ := XW_head hXW
          refine lw_callVi (wr := [(h_bb, .inl (k_cI G, 21, .inl w_bb)), (h_m, .inl (k_cI G, 7, .inl w_m)), (h_v, .inl (k_cI G, 4, .inl w_v))]) (rest := []) C0 (lx_stack hXW et10 H.size) (cwV 2 hts gL_law_X11_stack rfl rfl rfl e_X11_stack ⟨Nat.le_of_ble_eq_true rfl, Nat.le_of_ble_eq_true rfl⟩) hP hD hS rfl rfl he9 rfl hl.1 rfl (Nat.le_of_ble_eq_true rfl) dL_law_475 ⟨Nat.le_of_ble_eq_true rfl, Nat.le_of_ble_eq_true rfl⟩ (fun w12 H locs hXW hP hD hS => ?_)
          replace hXW : XW G h_o σ11 w12 := by rw [eσ11]; exact hXW
          clear et10 eσ11 he9
          refine lv_aload_n hx hb dL_law_478 rfl (lv_at hl 1 rfl) ?_
          refine lv_iload hx hb dL_law_479 (lv_at hl 6 rfl) ?_
          refine lv_iconst (v := 4) hx hb dL_law_481 (by decide) ?_
          obtain ⟨t13, et13, hrun⟩ := bd_inv hrun
          obtain ⟨σ14, eσ14, hrun⟩ := lt_inv hrun
          obtain ⟨fs9, he9⟩ := XW_head hXW
          refine lw_callVi (wr := [(h_bb, .inl (k_cI G, 21, .inl w_bb)), (h_m, .inl (k_cI G, 7, .inl w_m)), (h_v, .inl (k_cI G, 4, .inl w_v))]) (rest := [.int t10.1]) C0 (lx_stack hXW et13 H.size) (cwV 2 hts gL_law_X11_stack rfl rfl rfl e_X11_stack ⟨Nat.le_of_ble_eq_true rfl, Nat.le_of_ble_eq_true rfl⟩) hP hD hS rfl rfl he9 rfl hl.1 rfl (Nat.le_of_ble_eq_true rfl) dL_law_482 ⟨Nat.le_of_ble_eq_true rfl, Nat.le_of_ble_eq_true rfl⟩ (fun w15 H locs hXW hP hD hS => ?_)
          replace hXW : XW G h_o σ14 w15 := by rw [eσ14]; exact hXW
          clear et13 eσ14 he9
          refine lv_icmp_ne (tgt := 511) hx hb dL_law_485 (by decide) (fun q16 => ?_) (fun q16 => ?_)
          · replace hrun := if_f q16 hrun
            refine lv_iconst (v := 0) hx hb dL_law_511 (by decide) ?_
            exact absurd (Option.some.inj hrun) (by decide)
          · replace hrun := if_t q16 hrun
            exact t_L_law_488 C0 hAs k286 hk286 k305 hk305 w15 x5 x6 x7 x8 x9 x10 w_bb w_m w_v σ14 _ _ _ hXW hP hD hS (lv_sub hl [0, 1, 2, 3, 4, 5, 6, 7, 8, 9] rfl) hrun
    · replace hrun := if_f q4 hrun
      refine lv_iload hx hb dL_law_434 (lv_at hl 10 rfl) ?_
      refine lv_aload_n hx hb dL_law_436 rfl (lv_at hl 1 rfl) ?_
      refine lv_iload hx hb dL_law_437 (lv_at hl 6 rfl) ?_
      refine lv_iload hx hb dL_law_439 (lv_at hl 11 rfl) ?_
      obtain ⟨t17, et17, hrun⟩ := bd_inv hrun
      obtain ⟨σ18, eσ18, hrun⟩ := lt_inv hrun
      obtain ⟨fs9, he9⟩ := XW_head hXW
      refine lw_callVi (wr := [(h_bb, .inl (k_cI G, 21, .inl w_bb)), (h_m, .inl (k_cI G, 7, .inl w_m)), (h_v, .inl (k_cI G, 4, .inl w_v))]) (rest := [.int x11]) C0 (lx_run hXW et17 H.size) (cwV 2 hts gL_law_X11_run rfl rfl rfl e_X11_run ⟨Nat.le_of_ble_eq_true rfl, Nat.le_of_ble_eq_true rfl⟩) hP hD hS rfl rfl he9 rfl hl.1 rfl (Nat.le_of_ble_eq_true rfl) dL_law_441 ⟨Nat.le_of_ble_eq_true rfl, Nat.le_of_ble_eq_true rfl⟩ (fun w19 H locs hXW hP hD hS => ?_)
      replace hXW : XW G h_o σ18 w19 := by rw [eσ18]; exact hXW
      clear et17 eσ18 he9
      refine lv_iadd hx hb dL_law_444 ?_
      obtain ⟨n20, en, hrun⟩ := lt_inv hrun
      refine k_nmi en ?_
      clear en
      refine lv_istore (lv' := [(11, .int n20), (0, .ref (k_xB G)), (1, .ref h_o), (3, .ref h_bb), (4, .ref h_v), (5, .int x5), (6, .int x6), (7, .int x7), (8, .int x8), (9, .int x9), (10, .int x10), (12, .int x12)]) hx hb dL_law_445 hl (by decide) rfl (fun ls hl => ?_)
      refine lv_iinc (v := x12 + 1) (lv' := [(12, .int (x12 + 1)), (11, .int n20), (0, .ref (k_xB G)), (1, .ref h_o), (3, .ref h_bb), (4, .ref h_v), (5, .int x5), (6, .int x6), (7, .int x7), (8, .int x8), (9, .int x9), (10, .int x10)]) hx hb dL_law_447 hl (k := 11) rfl rfl (by decide) rfl (fun ls hl => ?_)
      refine lv_goto (tgt := 422) hx hb dL_law_450 (by decide) ?_
      exact ih w19 x5 x6 x7 x8 x9 x10 n20 (x12 + 1) w_bb w_m w_v σ18 _ _ _ hXW hP hD hS (lv_sub hl [2, 3, 4, 5, 6, 7, 8, 9, 10, 11, 1, 0] rfl) hrun
set_option maxHeartbeats 4000000 in
set_option maxRecDepth 100000 in
theorem t_L_law_411 {l : Launch} {G : k_G} {p : Program} {e : Env} {s : State} {m : MethodId} {b : Nat} {below : List Frame} {meth : Method} {c : Code} {A : Nat → Prop} {h_bb h_m h_v h_o : Nat} (C0 : k_C G p s m #[Value.ref b] meth c A code RL lw_tbl 21 (some .boolean) meth.name) (hAs : ∀ q, A q → s.heap.size ≤ q) (k286 : Int32 → (Nat → Int32) → (Nat → Int32) → (Nat → Int32) → k_SB → Option (Int32)) (hk286 : ∀ (w : va_W) (x5 : Int32) (w_bb : Nat → Int32) (w_m : Nat → Int32) (w_v : Nat → Int32) (σ : k_SB) (H : Heap) (locs : List Loc) (ls : Array Slot), XW G h_o σ w → va_P G.1 vwCl ([(h_bb, .inl (k_cI G, 21, .inl w_bb)), (h_m, .inl (k_cI G, 7, .inl w_m)), (h_v, .inl (k_cI G, 4, .inl w_v))] ++ w) H → va_D A ([(h_bb, .inl (k_cI G, 21, .inl w_bb)), (h_m, .inl (k_cI G, 7, .inl w_m)), (h_v, .inl (k_cI G, 4, .inl w_v))] ++ w) → va_S A s.heap H locs → lv_has ls 21 [(0, .ref (k_xB G)), (1, .ref h_o), (3, .ref h_bb), (4, .ref h_v), (5, .int x5)] → k286 x5 w_bb w_m w_v σ = some (1 : Int32) → W p l e room_1 s m #[Value.ref b] below meth c H locs 44 13141 (lw_Z below #[Value.ref b] s) (F0 m 286 ls [])) (k305 : Int32 → Int32 → Int32 → (Nat → Int32) → (Nat → Int32) → (Nat → Int32) → k_SB → Option (Int32)) (hk305 : ∀ (w : va_W) (x5 : Int32) (x6 : Int32) (x7 : Int32) (w_bb : Nat → Int32) (w_m : Nat → Int32) (w_v : Nat → Int32) (σ : k_SB) (H : Heap) (locs : List Loc) (ls : Array Slot), XW G h_o σ w → va_P G.1 vwCl ([(h_bb, .inl (k_cI G, 21, .inl w_bb)), (h_m, .inl (k_cI G, 7, .inl w_m)), (h_v, .inl (k_cI G, 4, .inl w_v))] ++ w) H → va_D A ([(h_bb, .inl (k_cI G, 21, .inl w_bb)), (h_m, .inl (k_cI G, 7, .inl w_m)), (h_v, .inl (k_cI G, 4, .inl w_v))] ++ w) → va_S A s.heap H locs → lv_has ls 21 [(0, .ref (k_xB G)), (1, .ref h_o), (3, .ref h_bb), (4, .ref h_v), (5, .int x5), (6, .int x6), (7, .int x7)] → k305 x5 x6 x7 w_bb w_m w_v σ = some (1 : Int32) → W p l e room_1 s m #[Value.ref b] below meth c H locs 44 13141 (lw_Z below #[Value.ref b] s) (F0 m 305 ls [])) : ∀ (w : va_W) (x5 : Int32) (x6 : Int32) (x7 : Int32) (x8 : Int32) (x9 : Int32) (x10 : Int32) (s0 : Int32) (s1 : Int32) (w_bb : Nat → Int32) (w_m : Nat → Int32) (w_v : Nat → Int32) (σ : k_SB) (H : Heap) (locs : List Loc) (ls : Array Slot), XW G h_o σ w → va_P G.1 vwCl ([(h_bb, .inl (k_cI G, 21, .inl w_bb)), (h_m, .inl (k_cI G, 7, .inl w_m)), (h_v, .inl (k_cI G, 4, .inl w_v))] ++ w) H → va_D A ([(h_bb, .inl (k_cI G, 21, .inl w_bb)), (h_m, .inl (k_cI G, 7, .inl w_m)), (h_v, .inl (k_cI G, 4, .inl w_v))] ++ w) → va_S A s.heap H locs → lv_has ls 21 [(0, .ref (k_xB G)), (1, .ref h_o), (3, .ref h_bb), (4, .ref h_v), (5, .int x5), (6, .int x6), (7, .int x7), (8, .int x8), (9, .int x9), (10, .int x10)] → f_L_law_411 (k_xL G) (k_xs G) k286 k305 x5 x6 x7 x8 x9 x10 s0 s1 w_bb w_m w_v σ = some (1 : Int32) → W p l e room_1 s m #[Value.ref b] below meth c H locs 44 13141 (lw_Z below #[Value.ref b] s) (F0 m 411 ls [.int s1, .int s0]) := by
  have hx := C0.1
  have hb := C0.2.1
  have hts := C0.2.2.2.1
  have hown := C0.2.2.2.2.1
  have hK := C0.2.2.2.2.2.2.2.2.1.1
  have hNW := C0.2.2.2.2.2.2.2.2.1.2.1
  have hSF := C0.2.2.2.2.2.2.2.2.1.2.2
  intro w x5 x6 x7 x8 x9 x10 s0 s1 w_bb w_m w_v σ H locs ls hXW hP hD hS hl hrun
  rw [f_L_law_411] at hrun
  refine lv_icmp_eq (tgt := 416) hx hb dL_law_411 (by decide) (fun q1 => ?_) (fun q1 => ?_)
  · replace hrun := if_t q1 hrun
    refine lv_iconst (v := 0) hx hb dL_law_416 (by decide) ?_
    refine lv_istore (lv' := [(11, .int (0 : Int32)), (0, .ref (k_xB G)), (1, .ref h_o), (3, .ref h_bb), (4, .ref h_v), (5, .int x5), (6, .int x6), (7, .int x7), (8, .int x8), (9, .int x9), (10, .int x10)]) hx hb dL_law_417 hl (by decide) rfl (fun ls hl => ?_)
    refine lv_iconst (v := 0) hx hb dL_law_419 (by decide) ?_
    refine lv_istore (lv' := [(12, .int (0 : Int32)), (11, .int (0 : Int32)), (0, .ref (k_xB G)), (1, .ref h_o), (3, .ref h_bb), (4, .ref h_v), (5, .int x5), (6, .int x6), (7, .int x7), (8, .int x8), (9, .int x9), (10, .int x10)]) hx hb dL_law_420 hl (by decide) rfl (fun ls hl => ?_)
    exact t_L_law_422 C0 hAs k286 hk286 k305 hk305 kFU w x5 x6 x7 x8 x9 x10 (0 : Int32) (0 : Int32) w_bb w_m w_v σ _ _ _ hXW hP hD hS (lv_sub hl [2, 3, 4, 5, 6, 7, 8, 9, 10, 11, 1, 0] rfl) hrun
  · replace hrun := if_f q1 hrun
    refine lv_iconst (v := 0) hx hb dL_law_414 (by decide) ?_
    exact absurd (Option.some.inj hrun) (by decide)
set_option maxHeartbeats 4000000 in
set_option maxRecDepth 100000 in
theorem t_L_law_395 {l : Launch} {G : k_G} {p : Program} {e : Env} {s : State} {m : MethodId} {b : Nat} {below : List Frame} {meth : Method} {c : Code} {A : Nat → Prop} {h_bb h_m h_v h_o : Nat} (C0 : k_C G p s m #[Value.ref b] meth c A code RL lw_tbl 21 (some .boolean) meth.name) (hAs : ∀ q, A q → s.heap.size ≤ q) (k286 : Int32 → (Nat → Int32) → (Nat → Int32) → (Nat → Int32) → k_SB → Option (Int32)) (hk286 : ∀ (w : va_W) (x5 : Int32) (w_bb : Nat → Int32) (w_m : Nat → Int32) (w_v : Nat → Int32) (σ : k_SB) (H : Heap) (locs : List Loc) (ls : Array Slot), XW G h_o σ w → va_P G.1 vwCl ([(h_bb, .inl (k_cI G, 21, .inl w_bb)), (h_m, .inl (k_cI G, 7, .inl w_m)), (h_v, .inl (k_cI G, 4, .inl w_v))] ++ w) H → va_D A ([(h_bb, .inl (k_cI G, 21, .inl w_bb)), (h_m, .inl (k_cI G, 7, .inl w_m)), (h_v, .inl (k_cI G, 4, .inl w_v))] ++ w) → va_S A s.heap H locs → lv_has ls 21 [(0, .ref (k_xB G)), (1, .ref h_o), (3, .ref h_bb), (4, .ref h_v), (5, .int x5)] → k286 x5 w_bb w_m w_v σ = some (1 : Int32) → W p l e room_1 s m #[Value.ref b] below meth c H locs 44 13141 (lw_Z below #[Value.ref b] s) (F0 m 286 ls [])) (k305 : Int32 → Int32 → Int32 → (Nat → Int32) → (Nat → Int32) → (Nat → Int32) → k_SB → Option (Int32)) (hk305 : ∀ (w : va_W) (x5 : Int32) (x6 : Int32) (x7 : Int32) (w_bb : Nat → Int32) (w_m : Nat → Int32) (w_v : Nat → Int32) (σ : k_SB) (H : Heap) (locs : List Loc) (ls : Array Slot), XW G h_o σ w → va_P G.1 vwCl ([(h_bb, .inl (k_cI G, 21, .inl w_bb)), (h_m, .inl (k_cI G, 7, .inl w_m)), (h_v, .inl (k_cI G, 4, .inl w_v))] ++ w) H → va_D A ([(h_bb, .inl (k_cI G, 21, .inl w_bb)), (h_m, .inl (k_cI G, 7, .inl w_m)), (h_v, .inl (k_cI G, 4, .inl w_v))] ++ w) → va_S A s.heap H locs → lv_has ls 21 [(0, .ref (k_xB G)), (1, .ref h_o), (3, .ref h_bb), (4, .ref h_v), (5, .int x5), (6, .int x6), (7, .int x7)] → k305 x5 x6 x7 w_bb w_m w_v σ = some (1 : Int32) → W p l e room_1 s m #[Value.ref b] below meth c H locs 44 13141 (lw_Z below #[Value.ref b] s) (F0 m 305 ls [])) : ∀ (w : va_W) (x5 : Int32) (x6 : Int32) (x7 : Int32) (x8 : Int32) (x9 : Int32) (x10 : Int32) (s0 : Int32) (w_bb : Nat → Int32) (w_m : Nat → Int32) (w_v : Nat → Int32) (σ : k_SB) (H : Heap) (locs : List Loc) (ls : Array Slot), XW G h_o σ w → va_P G.1 vwCl ([(h_bb, .inl (k_cI G, 21, .inl w_bb)), (h_m, .inl (k_cI G, 7, .inl w_m)), (h_v, .inl (k_cI G, 4, .inl w_v))] ++ w) H → va_D A ([(h_bb, .inl (k_cI G, 21, .inl w_bb)), (h_m, .inl (k_cI G, 7, .inl w_m)), (h_v, .inl (k_cI G, 4, .inl w_v))] ++ w) → va_S A s.heap H locs → lv_has ls 21 [(0, .ref (k_xB G)), (1, .ref h_o), (3, .ref h_bb), (4, .ref h_v), (5, .int x5), (6, .int x6), (7, .int x7), (8, .int x8), (9, .int x9), (10, .int x10)] → f_L_law_395 (k_xL G) (k_xs G) k286 k305 x5 x6 x7 x8 x9 x10 s0 w_bb w_m w_v σ = some (1 : Int32) → W p l e room_1 s m #[Value.ref b] below meth c H locs 44 13141 (lw_Z below #[Value.ref b] s) (F0 m 395 ls [.int s0]) := by
  have hx := C0.1
  have hb := C0.2.1
  have hts := C0.2.2.2.1
  have hown := C0.2.2.2.2.1
  have hK := C0.2.2.2.2.2.2.2.2.1.1
  have hNW := C0.2.2.2.2.2.2.2.2.1.2.1
  have hSF := C0.2.2.2.2.2.2.2.2.1.2.2
  intro w x5 x6 x7 x8 x9 x10 s0 w_bb w_m w_v σ H locs ls hXW hP hD hS hl hrun
  rw [f_L_law_395] at hrun
  refine lv_aload_n hx hb dL_law_395 rfl (lv_at hl 1 rfl) ?_
  refine lv_iload hx hb dL_law_396 (lv_at hl 6 rfl) ?_
  obtain ⟨t1, et1, hrun⟩ := bd_inv hrun
  obtain ⟨σ2, eσ2, hrun⟩ := lt_inv hrun
  obtain ⟨fs9, he9⟩ := XW_head hXW
  refine lw_callVi (wr := [(h_bb, .inl (k_cI G, 21, .inl w_bb)), (h_m, .inl (k_cI G, 7, .inl w_m)), (h_v, .inl (k_cI G, 4, .inl w_v))]) (rest := [.int s0]) C0 (lx_sum hXW et1 H.size) (cwV 1 hts gL_law_X11_sum rfl rfl rfl e_X11_sum ⟨Nat.le_of_ble_eq_true rfl, Nat.le_of_ble_eq_true rfl⟩) hP hD hS rfl rfl he9 rfl hl.1 rfl (Nat.le_of_ble_eq_true rfl) dL_law_398 ⟨Nat.le_of_ble_eq_true rfl, Nat.le_of_ble_eq_true rfl⟩ (fun w3 H locs hXW hP hD hS => ?_)
  replace hXW : XW G h_o σ2 w3 := by rw [eσ2]; exact hXW
  clear et1 eσ2 he9
  refine lv_iconst (v := 3) hx hb dL_law_401 (by decide) ?_
  refine lv_irem hx hb dL_law_402 (by decide) ?_
  refine lv_if_ne (tgt := 410) hx hb dL_law_403 (by decide) (fun q4 => ?_) (fun q4 => ?_)
  · replace hrun := if_f q4 hrun
    refine lv_iconst (v := 0) hx hb dL_law_410 (by decide) ?_
    exact t_L_law_411 C0 hAs k286 hk286 k305 hk305 w3 x5 x6 x7 x8 x9 x10 s0 (0 : Int32) w_bb w_m w_v σ2 _ _ _ hXW hP hD hS hl hrun
  · replace hrun := if_t q4 hrun
    refine lv_iconst (v := 1) hx hb dL_law_406 (by decide) ?_
    refine lv_goto (tgt := 411) hx hb dL_law_407 (by decide) ?_
    exact t_L_law_411 C0 hAs k286 hk286 k305 hk305 w3 x5 x6 x7 x8 x9 x10 s0 (1 : Int32) w_bb w_m w_v σ2 _ _ _ hXW hP hD hS hl hrun
set_option maxHeartbeats 4000000 in
set_option maxRecDepth 100000 in
theorem t_L_law_356 {l : Launch} {G : k_G} {p : Program} {e : Env} {s : State} {m : MethodId} {b : Nat} {below : List Frame} {meth : Method} {c : Code} {A : Nat → Prop} {h_bb h_m h_v h_o : Nat} (C0 : k_C G p s m #[Value.ref b] meth c A code RL lw_tbl 21 (some .boolean) meth.name) (hAs : ∀ q, A q → s.heap.size ≤ q) (k286 : Int32 → (Nat → Int32) → (Nat → Int32) → (Nat → Int32) → k_SB → Option (Int32)) (hk286 : ∀ (w : va_W) (x5 : Int32) (w_bb : Nat → Int32) (w_m : Nat → Int32) (w_v : Nat → Int32) (σ : k_SB) (H : Heap) (locs : List Loc) (ls : Array Slot), XW G h_o σ w → va_P G.1 vwCl ([(h_bb, .inl (k_cI G, 21, .inl w_bb)), (h_m, .inl (k_cI G, 7, .inl w_m)), (h_v, .inl (k_cI G, 4, .inl w_v))] ++ w) H → va_D A ([(h_bb, .inl (k_cI G, 21, .inl w_bb)), (h_m, .inl (k_cI G, 7, .inl w_m)), (h_v, .inl (k_cI G, 4, .inl w_v))] ++ w) → va_S A s.heap H locs → lv_has ls 21 [(0, .ref (k_xB G)), (1, .ref h_o), (3, .ref h_bb), (4, .ref h_v), (5, .int x5)] → k286 x5 w_bb w_m w_v σ = some (1 : Int32) → W p l e room_1 s m #[Value.ref b] below meth c H locs 44 13141 (lw_Z below #[Value.ref b] s) (F0 m 286 ls [])) (k305 : Int32 → Int32 → Int32 → (Nat → Int32) → (Nat → Int32) → (Nat → Int32) → k_SB → Option (Int32)) (hk305 : ∀ (w : va_W) (x5 : Int32) (x6 : Int32) (x7 : Int32) (w_bb : Nat → Int32) (w_m : Nat → Int32) (w_v : Nat → Int32) (σ : k_SB) (H : Heap) (locs : List Loc) (ls : Array Slot), XW G h_o σ w → va_P G.1 vwCl ([(h_bb, .inl (k_cI G, 21, .inl w_bb)), (h_m, .inl (k_cI G, 7, .inl w_m)), (h_v, .inl (k_cI G, 4, .inl w_v))] ++ w) H → va_D A ([(h_bb, .inl (k_cI G, 21, .inl w_bb)), (h_m, .inl (k_cI G, 7, .inl w_m)), (h_v, .inl (k_cI G, 4, .inl w_v))] ++ w) → va_S A s.heap H locs → lv_has ls 21 [(0, .ref (k_xB G)), (1, .ref h_o), (3, .ref h_bb), (4, .ref h_v), (5, .int x5), (6, .int x6), (7, .int x7)] → k305 x5 x6 x7 w_bb w_m w_v σ = some (1 : Int32) → W p l e room_1 s m #[Value.ref b] below meth c H locs 44 13141 (lw_Z below #[Value.ref b] s) (F0 m 305 ls [])) : ∀ (w : va_W) (x5 : Int32) (x6 : Int32) (x7 : Int32) (x8 : Int32) (x9 : Int32) (x10 : Int32) (w_bb : Nat → Int32) (w_m : Nat → Int32) (w_v : Nat → Int32) (σ : k_SB) (H : Heap) (locs : List Loc) (ls : Array Slot), XW G h_o σ w → va_P G.1 vwCl ([(h_bb, .inl (k_cI G, 21, .inl w_bb)), (h_m, .inl (k_cI G, 7, .inl w_m)), (h_v, .inl (k_cI G, 4, .inl w_v))] ++ w) H → va_D A ([(h_bb, .inl (k_cI G, 21, .inl w_bb)), (h_m, .inl (k_cI G, 7, .inl w_m)), (h_v, .inl (k_cI G, 4, .inl w_v))] ++ w) → va_S A s.heap H locs → lv_has ls 21 [(0, .ref (k_xB G)), (1, .ref h_o), (3, .ref h_bb), (4, .ref h_v), (5, .int x5), (6, .int x6), (7, .int x7), (8, .int x8), (9, .int x9), (10, .int x10)] → f_L_law_356 (k_xL G) (k_xs G) k286 k305 x5 x6 x7 x8 x9 x10 w_bb w_m w_v σ = some (1 : Int32) → W p l e room_1 s m #[Value.ref b] below meth c H locs 44 13141 (lw_Z below #[Value.ref b] s) (F0 m 356 ls []) := by
  have hx := C0.1
  have hb := C0.2.1
  have hts := C0.2.2.2.1
  have hown := C0.2.2.2.2.1
  have hK := C0.2.2.2.2.2.2.2.2.1.1
  have hNW := C0.2.2.2.2.2.2.2.2.1.2.1
  have hSF := C0.2.2.2.2.2.2.2.2.1.2.2
  intro w x5 x6 x7 x8 x9 x10 w_bb w_m w_v σ H locs ls hXW hP hD hS hl hrun
  rw [f_L_law_356] at hrun
  refine lv_iload hx hb dL_law_356 (lv_at hl 7 rfl) ?_
  refine lv_aload_n hx hb dL_law_358 rfl (lv_at hl 1 rfl) ?_
  refine lv_iload hx hb dL_law_359 (lv_at hl 6 rfl) ?_
  refine lv_iconst (v := 3) hx hb dL_law_361 (by decide) ?_
  obtain ⟨t1, et1, hrun⟩ := bd_inv hrun
  obtain ⟨σ2, eσ2, hrun⟩ := lt_inv hrun
  obtain ⟨fs9, he9⟩ := XW_head hXW
  refine lw_callVi (wr := [(h_bb, .inl (k_cI G, 21, .inl w_bb)), (h_m, .inl (k_cI G, 7, .inl w_m)), (h_v, .inl (k_cI G, 4, .inl w_v))]) (rest := [.int x8]) C0 (lx_stack hXW et1 H.size) (cwV 2 hts gL_law_X11_stack rfl rfl rfl e_X11_stack ⟨Nat.le_of_ble_eq_true rfl, Nat.le_of_ble_eq_true rfl⟩) hP hD hS rfl rfl he9 rfl hl.1 rfl (Nat.le_of_ble_eq_true rfl) dL_law_362 ⟨Nat.le_of_ble_eq_true rfl, Nat.le_of_ble_eq_true rfl⟩ (fun w3 H locs hXW hP hD hS => ?_)
  replace hXW : XW G h_o σ2 w3 := by rw [eσ2]; exact hXW
  clear et1 eσ2 he9
  obtain ⟨gz4, hrun⟩ := gd_inv hrun
  refine lv_irem hx hb dL_law_365 gz4 ?_
  refine lv_if_ne (tgt := 414) hx hb dL_law_366 (by decide) (fun q5 => ?_) (fun q5 => ?_)
  · replace hrun := if_f q5 hrun
    refine lv_iconst (v := 0) hx hb dL_law_414 (by decide) ?_
    exact absurd (Option.some.inj hrun) (by decide)
  · replace hrun := if_t q5 hrun
    refine lv_aload_n hx hb dL_law_369 rfl (lv_at hl 1 rfl) ?_
    refine lv_iload hx hb dL_law_370 (lv_at hl 6 rfl) ?_
    obtain ⟨t6, et6, hrun⟩ := bd_inv hrun
    obtain ⟨σ7, eσ7, hrun⟩ := lt_inv hrun
    obtain ⟨fs9, he9⟩ := XW_head hXW
    refine lw_callVi (wr := [(h_bb, .inl (k_cI G, 21, .inl w_bb)), (h_m, .inl (k_cI G, 7, .inl w_m)), (h_v, .inl (k_cI G, 4, .inl w_v))]) (rest := []) C0 (lx_sum hXW et6 H.size) (cwV 1 hts gL_law_X11_sum rfl rfl rfl e_X11_sum ⟨Nat.le_of_ble_eq_true rfl, Nat.le_of_ble_eq_true rfl⟩) hP hD hS rfl rfl he9 rfl hl.1 rfl (Nat.le_of_ble_eq_true rfl) dL_law_372 ⟨Nat.le_of_ble_eq_true rfl, Nat.le_of_ble_eq_true rfl⟩ (fun w8 H locs hXW hP hD hS => ?_)
    replace hXW : XW G h_o σ7 w8 := by rw [eσ7]; exact hXW
    clear et6 eσ7 he9
    refine lv_iload hx hb dL_law_375 (lv_at hl 7 rfl) ?_
    refine lv_isub hx hb dL_law_377 ?_
    refine lv_iconst (v := 2) hx hb dL_law_378 (by decide) ?_
    refine lv_irem hx hb dL_law_379 (by decide) ?_
    refine lv_if_ne (tgt := 414) hx hb dL_law_380 (by decide) (fun q9 => ?_) (fun q9 => ?_)
    · replace hrun := if_f q9 hrun
      refine lv_iconst (v := 0) hx hb dL_law_414 (by decide) ?_
      exact absurd (Option.some.inj hrun) (by decide)
    · replace hrun := if_t q9 hrun
      refine lv_iload hx hb dL_law_383 (lv_at hl 9 rfl) ?_
      refine lv_iload hx hb dL_law_385 (lv_at hl 7 rfl) ?_
      refine lv_icmp_ne (tgt := 394) hx hb dL_law_387 (by decide) (fun q10 => ?_) (fun q10 => ?_)
      · replace hrun := if_f q10 hrun
        refine lv_iconst (v := 0) hx hb dL_law_394 (by decide) ?_
        exact t_L_law_395 C0 hAs k286 hk286 k305 hk305 w8 x5 x6 x7 x8 x9 x10 (0 : Int32) w_bb w_m w_v σ7 _ _ _ hXW hP hD hS hl hrun
      · replace hrun := if_t q10 hrun
        refine lv_iconst (v := 1) hx hb dL_law_390 (by decide) ?_
        refine lv_goto (tgt := 395) hx hb dL_law_391 (by decide) ?_
        exact t_L_law_395 C0 hAs k286 hk286 k305 hk305 w8 x5 x6 x7 x8 x9 x10 (1 : Int32) w_bb w_m w_v σ7 _ _ _ hXW hP hD hS hl hrun
set_option maxHeartbeats 4000000 in
set_option maxRecDepth 100000 in
theorem t_L_law_1683 {l : Launch} {G : k_G} {p : Program} {e : Env} {s : State} {m : MethodId} {b : Nat} {below : List Frame} {meth : Method} {c : Code} {A : Nat → Prop} {h_bb h_m h_v h_o : Nat} (C0 : k_C G p s m #[Value.ref b] meth c A code RL lw_tbl 21 (some .boolean) meth.name) (hAs : ∀ q, A q → s.heap.size ≤ q) (k286 : Int32 → (Nat → Int32) → (Nat → Int32) → (Nat → Int32) → k_SB → Option (Int32)) (hk286 : ∀ (w : va_W) (x5 : Int32) (w_bb : Nat → Int32) (w_m : Nat → Int32) (w_v : Nat → Int32) (σ : k_SB) (H : Heap) (locs : List Loc) (ls : Array Slot), XW G h_o σ w → va_P G.1 vwCl ([(h_bb, .inl (k_cI G, 21, .inl w_bb)), (h_m, .inl (k_cI G, 7, .inl w_m)), (h_v, .inl (k_cI G, 4, .inl w_v))] ++ w) H → va_D A ([(h_bb, .inl (k_cI G, 21, .inl w_bb)), (h_m, .inl (k_cI G, 7, .inl w_m)), (h_v, .inl (k_cI G, 4, .inl w_v))] ++ w) → va_S A s.heap H locs → lv_has ls 21 [(0, .ref (k_xB G)), (1, .ref h_o), (3, .ref h_bb), (4, .ref h_v), (5, .int x5)] → k286 x5 w_bb w_m w_v σ = some (1 : Int32) → W p l e room_1 s m #[Value.ref b] below meth c H locs 44 13141 (lw_Z below #[Value.ref b] s) (F0 m 286 ls [])) (k1629 : Int32 → Int32 → Int32 → Int32 → (Nat → Int32) → (Nat → Int32) → (Nat → Int32) → k_SB → Option (Int32)) (hk1629 : ∀ (w : va_W) (x5 : Int32) (x6 : Int32) (x9 : Int32) (x10 : Int32) (w_bb : Nat → Int32) (w_m : Nat → Int32) (w_v : Nat → Int32) (σ : k_SB) (H : Heap) (locs : List Loc) (ls : Array Slot), XW G h_o σ w → va_P G.1 vwCl ([(h_bb, .inl (k_cI G, 21, .inl w_bb)), (h_m, .inl (k_cI G, 7, .inl w_m)), (h_v, .inl (k_cI G, 4, .inl w_v))] ++ w) H → va_D A ([(h_bb, .inl (k_cI G, 21, .inl w_bb)), (h_m, .inl (k_cI G, 7, .inl w_m)), (h_v, .inl (k_cI G, 4, .inl w_v))] ++ w) → va_S A s.heap H locs → lv_has ls 21 [(0, .ref (k_xB G)), (1, .ref h_o), (3, .ref h_bb), (4, .ref h_v), (5, .int x5), (6, .int x6), (9, .int x9), (10, .int x10)] → k1629 x5 x6 x9 x10 w_bb w_m w_v σ = some (1 : Int32) → W p l e room_1 s m #[Value.ref b] below meth c H locs 44 13141 (lw_Z below #[Value.ref b] s) (F0 m 1629 ls [])) : ∀ (w : va_W) (x5 : Int32) (x6 : Int32) (x9 : Int32) (x10 : Int32) (w_bb : Nat → Int32) (w_m : Nat → Int32) (w_v : Nat → Int32) (σ : k_SB) (H : Heap) (locs : List Loc) (ls : Array Slot), XW G h_o σ w → va_P G.1 vwCl ([(h_bb, .inl (k_cI G, 21, .inl w_bb)), (h_m, .inl (k_cI G, 7, .inl w_m)), (h_v, .inl (k_cI G, 4, .inl w_v))] ++ w) H → va_D A ([(h_bb, .inl (k_cI G, 21, .inl w_bb)), (h_m, .inl (k_cI G, 7, .inl w_m)), (h_v, .inl (k_cI G, 4, .inl w_v))] ++ w) → va_S A s.heap H locs → lv_has ls 21 [(0, .ref (k_xB G)), (1, .ref h_o), (3, .ref h_bb), (4, .ref h_v), (5, .int x5), (6, .int x6), (9, .int x9), (10, .int x10)] → f_L_law_1683 (k_xL G) (k_xs G) k286 k1629 x5 x6 x9 x10 w_bb w_m w_v σ = some (1 : Int32) → W p l e room_1 s m #[Value.ref b] below meth c H locs 44 13141 (lw_Z below #[Value.ref b] s) (F0 m 1683 ls []) := by
  have hx := C0.1
  have hb := C0.2.1
  have hts := C0.2.2.2.1
  have hown := C0.2.2.2.2.1
  have hK := C0.2.2.2.2.2.2.2.2.1.1
  have hNW := C0.2.2.2.2.2.2.2.2.1.2.1
  have hSF := C0.2.2.2.2.2.2.2.2.1.2.2
  intro w x5 x6 x9 x10 w_bb w_m w_v σ H locs ls hXW hP hD hS hl hrun
  rw [f_L_law_1683] at hrun
  refine lv_iinc (v := x10 + 1) (lv' := [(10, .int (x10 + 1)), (0, .ref (k_xB G)), (1, .ref h_o), (3, .ref h_bb), (4, .ref h_v), (5, .int x5), (6, .int x6), (9, .int x9)]) hx hb dL_law_1683 hl (k := 7) rfl rfl (by decide) rfl (fun ls hl => ?_)
  refine lv_goto (tgt := 1629) hx hb dL_law_1686 (by decide) ?_
  exact hk1629 w x5 x6 x9 (x10 + 1) w_bb w_m w_v σ _ _ _ hXW hP hD hS (lv_sub hl [1, 2, 3, 4, 5, 6, 7, 0] rfl) hrun
set_option maxHeartbeats 4000000 in
set_option maxRecDepth 100000 in
theorem t_L_law_1847 {l : Launch} {G : k_G} {p : Program} {e : Env} {s : State} {m : MethodId} {b : Nat} {below : List Frame} {meth : Method} {c : Code} {A : Nat → Prop} {h_bb h_m h_v h_o : Nat} (C0 : k_C G p s m #[Value.ref b] meth c A code RL lw_tbl 21 (some .boolean) meth.name) (hAs : ∀ q, A q → s.heap.size ≤ q) (k286 : Int32 → (Nat → Int32) → (Nat → Int32) → (Nat → Int32) → k_SB → Option (Int32)) (hk286 : ∀ (w : va_W) (x5 : Int32) (w_bb : Nat → Int32) (w_m : Nat → Int32) (w_v : Nat → Int32) (σ : k_SB) (H : Heap) (locs : List Loc) (ls : Array Slot), XW G h_o σ w → va_P G.1 vwCl ([(h_bb, .inl (k_cI G, 21, .inl w_bb)), (h_m, .inl (k_cI G, 7, .inl w_m)), (h_v, .inl (k_cI G, 4, .inl w_v))] ++ w) H → va_D A ([(h_bb, .inl (k_cI G, 21, .inl w_bb)), (h_m, .inl (k_cI G, 7, .inl w_m)), (h_v, .inl (k_cI G, 4, .inl w_v))] ++ w) → va_S A s.heap H locs → lv_has ls 21 [(0, .ref (k_xB G)), (1, .ref h_o), (3, .ref h_bb), (4, .ref h_v), (5, .int x5)] → k286 x5 w_bb w_m w_v σ = some (1 : Int32) → W p l e room_1 s m #[Value.ref b] below meth c H locs 44 13141 (lw_Z below #[Value.ref b] s) (F0 m 286 ls [])) : ∀ (n : Nat) (w : va_W) (x5 : Int32) (x13 : Int32) (w_bb : Nat → Int32) (w_m : Nat → Int32) (w_v : Nat → Int32) (σ : k_SB) (H : Heap) (locs : List Loc) (ls : Array Slot), XW G h_o σ w → va_P G.1 vwCl ([(h_bb, .inl (k_cI G, 21, .inl w_bb)), (h_m, .inl (k_cI G, 7, .inl w_m)), (h_v, .inl (k_cI G, 4, .inl w_v))] ++ w) H → va_D A ([(h_bb, .inl (k_cI G, 21, .inl w_bb)), (h_m, .inl (k_cI G, 7, .inl w_m)), (h_v, .inl (k_cI G, 4, .inl w_v))] ++ w) → va_S A s.heap H locs → lv_has ls 21 [(0, .ref (k_xB G)), (1, .ref h_o), (3, .ref h_bb), (4, .ref h_v), (5, .int x5), (13, .int x13)] → f_L_law_1847 (k_xL G) (k_xs G) k286 n x5 x13 w_bb w_m w_v σ = some (1 : Int32) → W p l e room_1 s m #[Value.ref b] below meth c H locs 44 13141 (lw_Z below #[Value.ref b] s) (F0 m 1847 ls []) := by
  have hx := C0.1
  have hb := C0.2.1
  have hts := C0.2.2.2.1
  have hown := C0.2.2.2.2.1
  have hK := C0.2.2.2.2.2.2.2.2.1.1
  have hNW := C0.2.2.2.2.2.2.2.2.1.2.1
  have hSF := C0.2.2.2.2.2.2.2.2.1.2.2
  intro n
  induction n with
  | zero =>
    intro w x5 x13 w_bb w_m w_v σ H locs ls hXW hP hD hS hl hrun
    rw [f_L_law_1847] at hrun
    cases hrun
  | succ n ih =>
    intro w x5 x13 w_bb w_m w_v σ H locs ls hXW hP hD hS hl hrun
    rw [f_L_law_1847] at hrun
    refine lv_iload hx hb dL_law_1847 (lv_at hl 5 rfl) ?_
    refine lv_iconst (v := 3) hx hb dL_law_1849 (by decide) ?_
    refine lv_icmp_ge (tgt := 1885) hx hb dL_law_1850 (by decide) (fun q1 => ?_) (fun q1 => ?_)
    · replace hrun := if_t q1 hrun
      refine lv_iinc (v := x5 + 1) (lv' := [(5, .int (x5 + 1)), (0, .ref (k_xB G)), (1, .ref h_o), (3, .ref h_bb), (4, .ref h_v), (13, .int x13)]) hx hb dL_law_1885 hl (k := 4) rfl rfl (by decide) rfl (fun ls hl => ?_)
      refine lv_goto (tgt := 286) hx hb dL_law_1888 (by decide) ?_
      exact hk286 w (x5 + 1) w_bb w_m w_v σ _ _ _ hXW hP hD hS (lv_sub hl [1, 2, 3, 4, 0] rfl) hrun
    · replace hrun := if_f q1 hrun
      refine lv_aload_n hx hb dL_law_1853 rfl (lv_at hl 1 rfl) ?_
      refine lv_aload_n hx hb dL_law_1854 rfl (lv_at hl 2 rfl) ?_
      refine lv_aload hx hb dL_law_1855 (lv_at hl 3 rfl) ?_
      refine lv_aload_n hx hb dL_law_1857 rfl (lv_at hl 0 rfl) ?_
      refine lv_bipush (v := 7) hx hb dL_law_1858 (by decide) ?_
      refine lv_iconst (v := 3) hx hb dL_law_1860 (by decide) ?_
      refine lv_iload hx hb dL_law_1861 (lv_at hl 4 rfl) ?_
      refine lv_imul hx hb dL_law_1863 ?_
      refine lv_iadd hx hb dL_law_1864 ?_
      refine lv_iload hx hb dL_law_1865 (lv_at hl 5 rfl) ?_
      refine lv_iadd hx hb dL_law_1867 ?_
      obtain ⟨t2, et2, hrun⟩ := bd_inv hrun
      refine k_calli0 C0 (k_runS (rest := [.ref h_v, .ref h_bb, .ref h_o]) C0 (c_L_cell et2) (va_cwS 2 hts gL_law_L_cell rfl rfl rfl e_L_cell.2 ⟨Nat.le_of_ble_eq_true rfl, Nat.le_of_ble_eq_true rfl⟩) hP hD hS [] rfl (by decide) rfl hl.1 rfl (Nat.le_of_ble_eq_true rfl) dL_law_1868 ⟨Nat.le_of_ble_eq_true rfl, Nat.le_of_ble_eq_true rfl⟩) hP hS (fun H locs hP hS => ?_)
      clear et2
      obtain ⟨t3, et3, hrun⟩ := bd_inv hrun
      have hpm : List.Perm ([(h_bb, .inl (k_cI G, 21, .inl w_bb)), (h_m, .inl (k_cI G, 7, .inl w_m)), (h_v, .inl (k_cI G, 4, .inl w_v))] ++ w) ([(h_m, .inl (k_cI G, 7, .inl w_m))] ++ ([(h_bb, .inl (k_cI G, 21, .inl w_bb)), (h_v, .inl (k_cI G, 4, .inl w_v))] ++ w)) := (List.Perm.swap _ _ _)
      have hP9 := k_permP hP hpm
      have hD9 := k_permD hD hpm
      refine lw_callSi (wr := [(h_m, .inl (k_cI G, 7, .inl w_m))]) (wc := ([(h_bb, .inl (k_cI G, 21, .inl w_bb)), (h_v, .inl (k_cI G, 4, .inl w_v))] ++ w)) (rest := []) C0 (c_L_act hXW et3 H.size) (va_cwS 4 hts gL_law_L_act rfl rfl rfl e_L_act.2 ⟨Nat.le_of_ble_eq_true rfl, Nat.le_of_ble_eq_true rfl⟩) hP9 hD9 hS rfl hl.1 rfl (Nat.le_of_ble_eq_true rfl) dL_law_1871 ⟨Nat.le_of_ble_eq_true rfl, Nat.le_of_ble_eq_true rfl⟩ (fun u9 H locs hu9 hP hD hS => ?_)
      obtain ⟨w4, rfl, hXW⟩ := hu9
      clear hpm hP9 hD9
      have hpm : List.Perm ([(h_m, .inl (k_cI G, 7, .inl w_m))] ++ ([(h_bb, .inl (k_cI G, 21, .inl w_bb)), (h_v, .inl (k_cI G, 4, .inl t3.2.1))] ++ w4)) ([(h_bb, .inl (k_cI G, 21, .inl w_bb)), (h_m, .inl (k_cI G, 7, .inl w_m)), (h_v, .inl (k_cI G, 4, .inl t3.2.1))] ++ w4) := (List.Perm.swap _ _ _)
      have hP : va_P G.1 vwCl ([(h_bb, .inl (k_cI G, 21, .inl w_bb)), (h_m, .inl (k_cI G, 7, .inl w_m)), (h_v, .inl (k_cI G, 4, .inl t3.2.1))] ++ w4) H := k_permP hP hpm
      have hD : va_D A ([(h_bb, .inl (k_cI G, 21, .inl w_bb)), (h_m, .inl (k_cI G, 7, .inl w_m)), (h_v, .inl (k_cI G, 4, .inl t3.2.1))] ++ w4) := k_permD hD hpm
      clear hpm
      clear et3
      refine lv_if_ge (tgt := 1879) hx hb dL_law_1874 (by decide) (fun q5 => ?_) (fun q5 => ?_)
      · replace hrun := if_t q5 hrun
        refine lv_iinc (v := x13 + 1) (lv' := [(13, .int (x13 + 1)), (0, .ref (k_xB G)), (1, .ref h_o), (3, .ref h_bb), (4, .ref h_v), (5, .int x5)]) hx hb dL_law_1879 hl (k := 5) rfl rfl (by decide) rfl (fun ls hl => ?_)
        refine lv_goto (tgt := 1847) hx hb dL_law_1882 (by decide) ?_
        exact ih w4 x5 (x13 + 1) w_bb w_m t3.2.1 t3.2.2 _ _ _ hXW hP hD hS (lv_sub hl [1, 2, 3, 4, 5, 0] rfl) hrun
      · replace hrun := if_f q5 hrun
        refine lv_iconst (v := 0) hx hb dL_law_1877 (by decide) ?_
        exact absurd (Option.some.inj hrun) (by decide)
set_option maxHeartbeats 4000000 in
set_option maxRecDepth 100000 in
theorem t_L_law_1629 {l : Launch} {G : k_G} {p : Program} {e : Env} {s : State} {m : MethodId} {b : Nat} {below : List Frame} {meth : Method} {c : Code} {A : Nat → Prop} {h_bb h_m h_v h_o : Nat} (C0 : k_C G p s m #[Value.ref b] meth c A code RL lw_tbl 21 (some .boolean) meth.name) (hAs : ∀ q, A q → s.heap.size ≤ q) (k286 : Int32 → (Nat → Int32) → (Nat → Int32) → (Nat → Int32) → k_SB → Option (Int32)) (hk286 : ∀ (w : va_W) (x5 : Int32) (w_bb : Nat → Int32) (w_m : Nat → Int32) (w_v : Nat → Int32) (σ : k_SB) (H : Heap) (locs : List Loc) (ls : Array Slot), XW G h_o σ w → va_P G.1 vwCl ([(h_bb, .inl (k_cI G, 21, .inl w_bb)), (h_m, .inl (k_cI G, 7, .inl w_m)), (h_v, .inl (k_cI G, 4, .inl w_v))] ++ w) H → va_D A ([(h_bb, .inl (k_cI G, 21, .inl w_bb)), (h_m, .inl (k_cI G, 7, .inl w_m)), (h_v, .inl (k_cI G, 4, .inl w_v))] ++ w) → va_S A s.heap H locs → lv_has ls 21 [(0, .ref (k_xB G)), (1, .ref h_o), (3, .ref h_bb), (4, .ref h_v), (5, .int x5)] → k286 x5 w_bb w_m w_v σ = some (1 : Int32) → W p l e room_1 s m #[Value.ref b] below meth c H locs 44 13141 (lw_Z below #[Value.ref b] s) (F0 m 286 ls [])) : ∀ (n : Nat) (w : va_W) (x5 : Int32) (x6 : Int32) (x9 : Int32) (x10 : Int32) (w_bb : Nat → Int32) (w_m : Nat → Int32) (w_v : Nat → Int32) (σ : k_SB) (H : Heap) (locs : List Loc) (ls : Array Slot), XW G h_o σ w → va_P G.1 vwCl ([(h_bb, .inl (k_cI G, 21, .inl w_bb)), (h_m, .inl (k_cI G, 7, .inl w_m)), (h_v, .inl (k_cI G, 4, .inl w_v))] ++ w) H → va_D A ([(h_bb, .inl (k_cI G, 21, .inl w_bb)), (h_m, .inl (k_cI G, 7, .inl w_m)), (h_v, .inl (k_cI G, 4, .inl w_v))] ++ w) → va_S A s.heap H locs → lv_has ls 21 [(0, .ref (k_xB G)), (1, .ref h_o), (3, .ref h_bb), (4, .ref h_v), (5, .int x5), (6, .int x6), (9, .int x9), (10, .int x10)] → f_L_law_1629 (k_xL G) (k_xs G) k286 n x5 x6 x9 x10 w_bb w_m w_v σ = some (1 : Int32) → W p l e room_1 s m #[Value.ref b] below meth c H locs 44 13141 (lw_Z below #[Value.ref b] s) (F0 m 1629 ls []) := by
  have hx := C0.1
  have hb := C0.2.1
  have hts := C0.2.2.2.1
  have hown := C0.2.2.2.2.1
  have hK := C0.2.2.2.2.2.2.2.2.1.1
  have hNW := C0.2.2.2.2.2.2.2.2.1.2.1
  have hSF := C0.2.2.2.2.2.2.2.2.1.2.2
  intro n
  induction n with
  | zero =>
    intro w x5 x6 x9 x10 w_bb w_m w_v σ H locs ls hXW hP hD hS hl hrun
    rw [f_L_law_1629] at hrun
    cases hrun
  | succ n ih =>
    intro w x5 x6 x9 x10 w_bb w_m w_v σ H locs ls hXW hP hD hS hl hrun
    rw [f_L_law_1629] at hrun
    refine lv_iload hx hb dL_law_1629 (lv_at hl 7 rfl) ?_
    refine lv_bipush (v := 7) hx hb dL_law_1631 (by decide) ?_
    refine lv_icmp_ge (tgt := 1689) hx hb dL_law_1633 (by decide) (fun q1 => ?_) (fun q1 => ?_)
    · replace hrun := if_t q1 hrun
      refine lv_aload_n hx hb dL_law_1689 rfl (lv_at hl 1 rfl) ?_
      refine lv_iload hx hb dL_law_1690 (lv_at hl 6 rfl) ?_
      refine lv_iconst (v := 0) hx hb dL_law_1692 (by decide) ?_
      obtain ⟨t2, et2, hrun⟩ := bd_inv hrun
      obtain ⟨σ3, eσ3, hrun⟩ := lt_inv hrun
      obtain ⟨fs9, he9⟩ := XW_head hXW
      refine lw_callVl (wr := [(h_bb, .inl (k_cI G, 21, .inl w_bb)), (h_m, .inl (k_cI G, 7, .inl w_m)), (h_v, .inl (k_cI G, 4, .inl w_v))]) (rest := []) C0 (lx_meanSum hXW et2 H.size) (cwV 2 hts gL_law_X11_meanSum rfl rfl rfl e_X11_meanSum ⟨Nat.le_of_ble_eq_true rfl, Nat.le_of_ble_eq_true rfl⟩) hP hD hS rfl rfl he9 rfl hl.1 rfl (Nat.le_of_ble_eq_true rfl) dL_law_1693 ⟨Nat.le_of_ble_eq_true rfl, Nat.le_of_ble_eq_true rfl⟩ (fun w4 H locs hXW hP hD hS => ?_)
      replace hXW : XW G h_o σ3 w4 := by rw [eσ3]; exact hXW
      clear et2 eσ3 he9
      refine lv_iload hx hb dL_law_1696 (lv_at hl 6 rfl) ?_
      refine lv_i2l hx hb dL_law_1698 rfl ?_
      refine lv_aload_n hx hb dL_law_1699 rfl (lv_at hl 1 rfl) ?_
      refine lv_iload hx hb dL_law_1700 (lv_at hl 6 rfl) ?_
      refine lv_iconst (v := 1) hx hb dL_law_1702 (by decide) ?_
      obtain ⟨t5, et5, hrun⟩ := bd_inv hrun
      obtain ⟨σ6, eσ6, hrun⟩ := lt_inv hrun
      obtain ⟨fs9, he9⟩ := XW_head hXW
      refine lw_callVl (wr := [(h_bb, .inl (k_cI G, 21, .inl w_bb)), (h_m, .inl (k_cI G, 7, .inl w_m)), (h_v, .inl (k_cI G, 4, .inl w_v))]) (rest := [.long (x9.toInt64), .long t2.1]) C0 (lx_meanSum hXW et5 H.size) (cwV 2 hts gL_law_X11_meanSum rfl rfl rfl e_X11_meanSum ⟨Nat.le_of_ble_eq_true rfl, Nat.le_of_ble_eq_true rfl⟩) hP hD hS rfl rfl he9 rfl hl.1 rfl (Nat.le_of_ble_eq_true rfl) dL_law_1703 ⟨Nat.le_of_ble_eq_true rfl, Nat.le_of_ble_eq_true rfl⟩ (fun w7 H locs hXW hP hD hS => ?_)
      replace hXW : XW G h_o σ6 w7 := by rw [eσ6]; exact hXW
      clear et5 eσ6 he9
      refine lv_lmul hx hb dL_law_1706 ?_
      refine W.lcmp hx hb dL_law_1707 ?_
      refine lv_if_gt (tgt := 1746) hx hb dL_law_1708 (by decide) (fun q8 => ?_) (fun q8 => ?_)
      · replace hrun := if_t q8 hrun
        refine lv_iconst (v := 0) hx hb dL_law_1746 (by decide) ?_
        exact absurd (Option.some.inj hrun) (by decide)
      · replace hrun := if_f q8 hrun
        refine lv_aload_n hx hb dL_law_1711 rfl (lv_at hl 1 rfl) ?_
        refine lv_iload hx hb dL_law_1712 (lv_at hl 6 rfl) ?_
        refine lv_iconst (v := 0) hx hb dL_law_1714 (by decide) ?_
        obtain ⟨t9, et9, hrun⟩ := bd_inv hrun
        obtain ⟨σ10, eσ10, hrun⟩ := lt_inv hrun
        obtain ⟨fs9, he9⟩ := XW_head hXW
        refine lw_callVl (wr := [(h_bb, .inl (k_cI G, 21, .inl w_bb)), (h_m, .inl (k_cI G, 7, .inl w_m)), (h_v, .inl (k_cI G, 4, .inl w_v))]) (rest := []) C0 (lx_meanSum hXW et9 H.size) (cwV 2 hts gL_law_X11_meanSum rfl rfl rfl e_X11_meanSum ⟨Nat.le_of_ble_eq_true rfl, Nat.le_of_ble_eq_true rfl⟩) hP hD hS rfl rfl he9 rfl hl.1 rfl (Nat.le_of_ble_eq_true rfl) dL_law_1715 ⟨Nat.le_of_ble_eq_true rfl, Nat.le_of_ble_eq_true rfl⟩ (fun w11 H locs hXW hP hD hS => ?_)
        replace hXW : XW G h_o σ10 w11 := by rw [eσ10]; exact hXW
        clear et9 eσ10 he9
        refine lv_iload hx hb dL_law_1718 (lv_at hl 6 rfl) ?_
        refine lv_ineg hx hb dL_law_1720 ?_
        refine lv_i2l hx hb dL_law_1721 rfl ?_
        refine lv_aload_n hx hb dL_law_1722 rfl (lv_at hl 1 rfl) ?_
        refine lv_iload hx hb dL_law_1723 (lv_at hl 6 rfl) ?_
        refine lv_iconst (v := 1) hx hb dL_law_1725 (by decide) ?_
        obtain ⟨t12, et12, hrun⟩ := bd_inv hrun
        obtain ⟨σ13, eσ13, hrun⟩ := lt_inv hrun
        obtain ⟨fs9, he9⟩ := XW_head hXW
        refine lw_callVl (wr := [(h_bb, .inl (k_cI G, 21, .inl w_bb)), (h_m, .inl (k_cI G, 7, .inl w_m)), (h_v, .inl (k_cI G, 4, .inl w_v))]) (rest := [.long ((-x9).toInt64), .long t9.1]) C0 (lx_meanSum hXW et12 H.size) (cwV 2 hts gL_law_X11_meanSum rfl rfl rfl e_X11_meanSum ⟨Nat.le_of_ble_eq_true rfl, Nat.le_of_ble_eq_true rfl⟩) hP hD hS rfl rfl he9 rfl hl.1 rfl (Nat.le_of_ble_eq_true rfl) dL_law_1726 ⟨Nat.le_of_ble_eq_true rfl, Nat.le_of_ble_eq_true rfl⟩ (fun w14 H locs hXW hP hD hS => ?_)
        replace hXW : XW G h_o σ13 w14 := by rw [eσ13]; exact hXW
        clear et12 eσ13 he9
        refine lv_lmul hx hb dL_law_1729 ?_
        refine W.lcmp hx hb dL_law_1730 ?_
        refine lv_if_lt (tgt := 1746) hx hb dL_law_1731 (by decide) (fun q15 => ?_) (fun q15 => ?_)
        · replace hrun := if_t q15 hrun
          refine lv_iconst (v := 0) hx hb dL_law_1746 (by decide) ?_
          exact absurd (Option.some.inj hrun) (by decide)
        · replace hrun := if_f q15 hrun
          refine lv_aload_n hx hb dL_law_1734 rfl (lv_at hl 1 rfl) ?_
          refine lv_iload hx hb dL_law_1735 (lv_at hl 6 rfl) ?_
          refine lv_iconst (v := 1) hx hb dL_law_1737 (by decide) ?_
          obtain ⟨t16, et16, hrun⟩ := bd_inv hrun
          obtain ⟨σ17, eσ17, hrun⟩ := lt_inv hrun
          obtain ⟨fs9, he9⟩ := XW_head hXW
          refine lw_callVl (wr := [(h_bb, .inl (k_cI G, 21, .inl w_bb)), (h_m, .inl (k_cI G, 7, .inl w_m)), (h_v, .inl (k_cI G, 4, .inl w_v))]) (rest := []) C0 (lx_meanSum hXW et16 H.size) (cwV 2 hts gL_law_X11_meanSum rfl rfl rfl e_X11_meanSum ⟨Nat.le_of_ble_eq_true rfl, Nat.le_of_ble_eq_true rfl⟩) hP hD hS rfl rfl he9 rfl hl.1 rfl (Nat.le_of_ble_eq_true rfl) dL_law_1738 ⟨Nat.le_of_ble_eq_true rfl, Nat.le_of_ble_eq_true rfl⟩ (fun w18 H locs hXW hP hD hS => ?_)
          replace hXW : XW G h_o σ17 w18 := by rw [eσ17]; exact hXW
          clear et16 eσ17 he9
          refine lv_lconst (v := 1) hx hb dL_law_1741 (by decide) ?_
          refine W.lcmp hx hb dL_law_1742 ?_
          refine lv_if_ge (tgt := 1748) hx hb dL_law_1743 (by decide) (fun q19 => ?_) (fun q19 => ?_)
          · replace hrun := if_t q19 hrun
            refine lv_iload hx hb dL_law_1748 (lv_at hl 5 rfl) ?_
            refine lv_iconst (v := 3) hx hb dL_law_1750 (by decide) ?_
            refine lv_ishr hx hb dL_law_1751 ?_
            refine lv_ldc (v := 65535) hx hb hown (hts _ lww_0) dL_law_1752 ?_
            refine lv_iand hx hb dL_law_1754 ?_
            obtain ⟨n20, en, hrun⟩ := lt_inv hrun
            refine k_nmi en ?_
            clear en
            refine lv_istore (lv' := [(10, .int n20), (0, .ref (k_xB G)), (1, .ref h_o), (3, .ref h_bb), (4, .ref h_v), (5, .int x5), (6, .int x6), (9, .int x9)]) hx hb dL_law_1755 hl (by decide) rfl (fun ls hl => ?_)
            refine lv_aload_n hx hb dL_law_1757 rfl (lv_at hl 2 rfl) ?_
            refine lv_iload hx hb dL_law_1758 (lv_at hl 0 rfl) ?_
            refine lv_iload hx hb dL_law_1760 (lv_at hl 7 rfl) ?_
            obtain ⟨t21, et21, hrun⟩ := bd_inv hrun
            obtain ⟨σ22, eσ22, hrun⟩ := lt_inv hrun
            obtain ⟨fs9, he9⟩ := XW_head hXW
            refine lw_callVi (wr := [(h_bb, .inl (k_cI G, 21, .inl w_bb)), (h_m, .inl (k_cI G, 7, .inl w_m)), (h_v, .inl (k_cI G, 4, .inl w_v))]) (rest := []) C0 (lx_grown hXW et21 H.size) (cwV 2 hts gL_law_X11_grown rfl rfl rfl e_X11_grown ⟨Nat.le_of_ble_eq_true rfl, Nat.le_of_ble_eq_true rfl⟩) hP hD hS rfl rfl he9 rfl hl.1 rfl (Nat.le_of_ble_eq_true rfl) dL_law_1762 ⟨Nat.le_of_ble_eq_true rfl, Nat.le_of_ble_eq_true rfl⟩ (fun w23 H locs hXW hP hD hS => ?_)
            replace hXW : XW G h_o σ22 w23 := by rw [eσ22]; exact hXW
            clear et21 eσ22 he9
            refine lv_istore (lv' := [(11, .int t21.1), (10, .int n20), (0, .ref (k_xB G)), (1, .ref h_o), (3, .ref h_bb), (4, .ref h_v), (5, .int x5), (6, .int x6), (9, .int x9)]) hx hb dL_law_1765 hl (by decide) rfl (fun ls hl => ?_)
            refine lv_aload_n hx hb dL_law_1767 rfl (lv_at hl 3 rfl) ?_
            refine lv_iload hx hb dL_law_1768 (lv_at hl 1 rfl) ?_
            refine lv_iload hx hb dL_law_1770 (lv_at hl 8 rfl) ?_
            obtain ⟨t24, et24, hrun⟩ := bd_inv hrun
            obtain ⟨σ25, eσ25, hrun⟩ := lt_inv hrun
            obtain ⟨fs9, he9⟩ := XW_head hXW
            refine lw_callVi (wr := [(h_bb, .inl (k_cI G, 21, .inl w_bb)), (h_m, .inl (k_cI G, 7, .inl w_m)), (h_v, .inl (k_cI G, 4, .inl w_v))]) (rest := []) C0 (lx_longestRun hXW et24 H.size) (cwV 2 hts gL_law_X11_longestRun rfl rfl rfl e_X11_longestRun ⟨Nat.le_of_ble_eq_true rfl, Nat.le_of_ble_eq_true rfl⟩) hP hD hS rfl rfl he9 rfl hl.1 rfl (Nat.le_of_ble_eq_true rfl) dL_law_1772 ⟨Nat.le_of_ble_eq_true rfl, Nat.le_of_ble_eq_true rfl⟩ (fun w26 H locs hXW hP hD hS => ?_)
            replace hXW : XW G h_o σ25 w26 := by rw [eσ25]; exact hXW
            clear et24 eσ25 he9
            refine lv_istore (lv' := [(12, .int t24.1), (11, .int t21.1), (10, .int n20), (0, .ref (k_xB G)), (1, .ref h_o), (3, .ref h_bb), (4, .ref h_v), (5, .int x5), (6, .int x6), (9, .int x9)]) hx hb dL_law_1775 hl (by decide) rfl (fun ls hl => ?_)
            refine lv_iload hx hb dL_law_1777 (lv_at hl 1 rfl) ?_
            refine lv_iconst (v := 1) hx hb dL_law_1779 (by decide) ?_
            refine lv_iload hx hb dL_law_1780 (lv_at hl 9 rfl) ?_
            refine lv_iconst (v := 1) hx hb dL_law_1782 (by decide) ?_
            refine lv_isub hx hb dL_law_1783 ?_
            refine lv_ishl hx hb dL_law_1784 ?_
            refine lv_icmp_lt (tgt := 1842) hx hb dL_law_1785 (by decide) (fun q27 => ?_) (fun q27 => ?_)
            · replace hrun := if_t q27 hrun
              refine lv_iconst (v := 0) hx hb dL_law_1842 (by decide) ?_
              exact absurd (Option.some.inj hrun) (by decide)
            · replace hrun := if_f q27 hrun
              refine lv_iload hx hb dL_law_1788 (lv_at hl 1 rfl) ?_
              refine lv_iconst (v := 1) hx hb dL_law_1790 (by decide) ?_
              refine lv_iload hx hb dL_law_1791 (lv_at hl 9 rfl) ?_
              refine lv_ishl hx hb dL_law_1793 ?_
              refine lv_icmp_ge (tgt := 1842) hx hb dL_law_1794 (by decide) (fun q28 => ?_) (fun q28 => ?_)
              · replace hrun := if_t q28 hrun
                refine lv_iconst (v := 0) hx hb dL_law_1842 (by decide) ?_
                exact absurd (Option.some.inj hrun) (by decide)
              · replace hrun := if_f q28 hrun
                refine lv_iload hx hb dL_law_1797 (lv_at hl 0 rfl) ?_
                refine lv_iconst (v := 1) hx hb dL_law_1799 (by decide) ?_
                refine lv_icmp_lt (tgt := 1842) hx hb dL_law_1800 (by decide) (fun q29 => ?_) (fun q29 => ?_)
                · replace hrun := if_t q29 hrun
                  refine lv_iconst (v := 0) hx hb dL_law_1842 (by decide) ?_
                  exact absurd (Option.some.inj hrun) (by decide)
                · replace hrun := if_f q29 hrun
                  refine lv_iload hx hb dL_law_1803 (lv_at hl 0 rfl) ?_
                  refine lv_iload hx hb dL_law_1805 (lv_at hl 9 rfl) ?_
                  refine lv_icmp_gt (tgt := 1842) hx hb dL_law_1807 (by decide) (fun q30 => ?_) (fun q30 => ?_)
                  · replace hrun := if_t q30 hrun
                    refine lv_iconst (v := 0) hx hb dL_law_1842 (by decide) ?_
                    exact absurd (Option.some.inj hrun) (by decide)
                  · replace hrun := if_f q30 hrun
                    refine lv_aload_n hx hb dL_law_1810 rfl (lv_at hl 4 rfl) ?_
                    refine lv_iload hx hb dL_law_1811 (lv_at hl 2 rfl) ?_
                    refine lv_iload hx hb dL_law_1813 (lv_at hl 9 rfl) ?_
                    refine lv_iconst (v := 1) hx hb dL_law_1815 (by decide) ?_
                    refine lv_iadd hx hb dL_law_1816 ?_
                    obtain ⟨t31, et31, hrun⟩ := bd_inv hrun
                    obtain ⟨σ32, eσ32, hrun⟩ := lt_inv hrun
                    obtain ⟨fs9, he9⟩ := XW_head hXW
                    refine lw_callVi (wr := [(h_bb, .inl (k_cI G, 21, .inl w_bb)), (h_m, .inl (k_cI G, 7, .inl w_m)), (h_v, .inl (k_cI G, 4, .inl w_v))]) (rest := []) C0 (lx_longestRun hXW et31 H.size) (cwV 2 hts gL_law_X11_longestRun rfl rfl rfl e_X11_longestRun ⟨Nat.le_of_ble_eq_true rfl, Nat.le_of_ble_eq_true rfl⟩) hP hD hS rfl rfl he9 rfl hl.1 rfl (Nat.le_of_ble_eq_true rfl) dL_law_1817 ⟨Nat.le_of_ble_eq_true rfl, Nat.le_of_ble_eq_true rfl⟩ (fun w33 H locs hXW hP hD hS => ?_)
                    replace hXW : XW G h_o σ32 w33 := by rw [eσ32]; exact hXW
                    clear et31 eσ32 he9
                    refine lv_iload hx hb dL_law_1820 (lv_at hl 0 rfl) ?_
                    refine lv_icmp_lt (tgt := 1842) hx hb dL_law_1822 (by decide) (fun q34 => ?_) (fun q34 => ?_)
                    · replace hrun := if_t q34 hrun
                      refine lv_iconst (v := 0) hx hb dL_law_1842 (by decide) ?_
                      exact absurd (Option.some.inj hrun) (by decide)
                    · replace hrun := if_f q34 hrun
                      refine lv_aload_n hx hb dL_law_1825 rfl (lv_at hl 4 rfl) ?_
                      refine lv_iload hx hb dL_law_1826 (lv_at hl 2 rfl) ?_
                      refine lv_iload hx hb dL_law_1828 (lv_at hl 9 rfl) ?_
                      refine lv_iconst (v := 1) hx hb dL_law_1830 (by decide) ?_
                      refine lv_iadd hx hb dL_law_1831 ?_
                      obtain ⟨t35, et35, hrun⟩ := bd_inv hrun
                      obtain ⟨σ36, eσ36, hrun⟩ := lt_inv hrun
                      obtain ⟨fs9, he9⟩ := XW_head hXW
                      refine lw_callVi (wr := [(h_bb, .inl (k_cI G, 21, .inl w_bb)), (h_m, .inl (k_cI G, 7, .inl w_m)), (h_v, .inl (k_cI G, 4, .inl w_v))]) (rest := []) C0 (lx_grown hXW et35 H.size) (cwV 2 hts gL_law_X11_grown rfl rfl rfl e_X11_grown ⟨Nat.le_of_ble_eq_true rfl, Nat.le_of_ble_eq_true rfl⟩) hP hD hS rfl rfl he9 rfl hl.1 rfl (Nat.le_of_ble_eq_true rfl) dL_law_1832 ⟨Nat.le_of_ble_eq_true rfl, Nat.le_of_ble_eq_true rfl⟩ (fun w37 H locs hXW hP hD hS => ?_)
                      replace hXW : XW G h_o σ36 w37 := by rw [eσ36]; exact hXW
                      clear et35 eσ36 he9
                      refine lv_iconst (v := 2) hx hb dL_law_1835 (by decide) ?_
                      refine lv_idiv hx hb dL_law_1836 (by decide) ?_
                      refine lv_iload hx hb dL_law_1837 (lv_at hl 1 rfl) ?_
                      refine lv_icmp_eq (tgt := 1844) hx hb dL_law_1839 (by decide) (fun q38 => ?_) (fun q38 => ?_)
                      · replace hrun := if_t q38 hrun
                        refine lv_iconst (v := 0) hx hb dL_law_1844 (by decide) ?_
                        refine lv_istore (lv' := [(13, .int (0 : Int32)), (12, .int t24.1), (11, .int t21.1), (10, .int n20), (0, .ref (k_xB G)), (1, .ref h_o), (3, .ref h_bb), (4, .ref h_v), (5, .int x5), (6, .int x6), (9, .int x9)]) hx hb dL_law_1845 hl (by decide) rfl (fun ls hl => ?_)
                        exact t_L_law_1847 C0 hAs k286 hk286 kFU w37 x5 (0 : Int32) w_bb w_m w_v σ36 _ _ _ hXW hP hD hS (lv_sub hl [4, 5, 6, 7, 8, 0] rfl) hrun
                      · replace hrun := if_f q38 hrun
                        refine lv_iconst (v := 0) hx hb dL_law_1842 (by decide) ?_
                        exact absurd (Option.some.inj hrun) (by decide)
          · replace hrun := if_f q19 hrun
            refine lv_iconst (v := 0) hx hb dL_law_1746 (by decide) ?_
            exact absurd (Option.some.inj hrun) (by decide)
    · replace hrun := if_f q1 hrun
      refine lv_aload_n hx hb dL_law_1636 rfl (lv_at hl 1 rfl) ?_
      refine lv_iload hx hb dL_law_1637 (lv_at hl 6 rfl) ?_
      refine lv_iload hx hb dL_law_1639 (lv_at hl 7 rfl) ?_
      refine lv_iconst (v := 0) hx hb dL_law_1641 (by decide) ?_
      obtain ⟨t39, et39, hrun⟩ := bd_inv hrun
      obtain ⟨σ40, eσ40, hrun⟩ := lt_inv hrun
      obtain ⟨fs9, he9⟩ := XW_head hXW
      refine lw_callVl (wr := [(h_bb, .inl (k_cI G, 21, .inl w_bb)), (h_m, .inl (k_cI G, 7, .inl w_m)), (h_v, .inl (k_cI G, 4, .inl w_v))]) (rest := []) C0 (lx_odds hXW et39 H.size) (cwV 3 hts gL_law_X11_odds rfl rfl rfl e_X11_odds ⟨Nat.le_of_ble_eq_true rfl, Nat.le_of_ble_eq_true rfl⟩) hP hD hS rfl rfl he9 rfl hl.1 rfl (Nat.le_of_ble_eq_true rfl) dL_law_1642 ⟨Nat.le_of_ble_eq_true rfl, Nat.le_of_ble_eq_true rfl⟩ (fun w41 H locs hXW hP hD hS => ?_)
      replace hXW : XW G h_o σ40 w41 := by rw [eσ40]; exact hXW
      clear et39 eσ40 he9
      refine lv_aload_n hx hb dL_law_1645 rfl (lv_at hl 1 rfl) ?_
      refine lv_iload hx hb dL_law_1646 (lv_at hl 6 rfl) ?_
      refine lv_iload hx hb dL_law_1648 (lv_at hl 7 rfl) ?_
      refine lv_iconst (v := 1) hx hb dL_law_1650 (by decide) ?_
      obtain ⟨t42, et42, hrun⟩ := bd_inv hrun
      obtain ⟨σ43, eσ43, hrun⟩ := lt_inv hrun
      obtain ⟨fs9, he9⟩ := XW_head hXW
      refine lw_callVl (wr := [(h_bb, .inl (k_cI G, 21, .inl w_bb)), (h_m, .inl (k_cI G, 7, .inl w_m)), (h_v, .inl (k_cI G, 4, .inl w_v))]) (rest := [.long t39.1]) C0 (lx_odds hXW et42 H.size) (cwV 3 hts gL_law_X11_odds rfl rfl rfl e_X11_odds ⟨Nat.le_of_ble_eq_true rfl, Nat.le_of_ble_eq_true rfl⟩) hP hD hS rfl rfl he9 rfl hl.1 rfl (Nat.le_of_ble_eq_true rfl) dL_law_1651 ⟨Nat.le_of_ble_eq_true rfl, Nat.le_of_ble_eq_true rfl⟩ (fun w44 H locs hXW hP hD hS => ?_)
      replace hXW : XW G h_o σ43 w44 := by rw [eσ43]; exact hXW
      clear et42 eσ43 he9
      refine W.lcmp hx hb dL_law_1654 ?_
      refine lv_if_gt (tgt := 1681) hx hb dL_law_1655 (by decide) (fun q45 => ?_) (fun q45 => ?_)
      · replace hrun := if_t q45 hrun
        refine lv_iconst (v := 0) hx hb dL_law_1681 (by decide) ?_
        exact absurd (Option.some.inj hrun) (by decide)
      · replace hrun := if_f q45 hrun
        refine lv_iload hx hb dL_law_1658 (lv_at hl 7 rfl) ?_
        refine lv_iload hx hb dL_law_1660 (lv_at hl 6 rfl) ?_
        refine lv_iconst (v := 1) hx hb dL_law_1662 (by decide) ?_
        refine lv_isub hx hb dL_law_1663 ?_
        refine lv_icmp_lt (tgt := 1683) hx hb dL_law_1664 (by decide) (fun q46 => ?_) (fun q46 => ?_)
        · replace hrun := if_t q46 hrun
          exact t_L_law_1683 C0 hAs k286 hk286 (fun x5 x6 x9 x10 w_bb w_m w_v σ => f_L_law_1629 (k_xL G) (k_xs G) k286 n x5 x6 x9 x10 w_bb w_m w_v σ) ih w44 x5 x6 x9 x10 w_bb w_m w_v σ43 _ _ _ hXW hP hD hS hl hrun
        · replace hrun := if_f q46 hrun
          refine lv_aload_n hx hb dL_law_1667 rfl (lv_at hl 1 rfl) ?_
          refine lv_iload hx hb dL_law_1668 (lv_at hl 6 rfl) ?_
          refine lv_iload hx hb dL_law_1670 (lv_at hl 7 rfl) ?_
          refine lv_iconst (v := 0) hx hb dL_law_1672 (by decide) ?_
          obtain ⟨t47, et47, hrun⟩ := bd_inv hrun
          obtain ⟨σ48, eσ48, hrun⟩ := lt_inv hrun
          obtain ⟨fs9, he9⟩ := XW_head hXW
          refine lw_callVl (wr := [(h_bb, .inl (k_cI G, 21, .inl w_bb)), (h_m, .inl (k_cI G, 7, .inl w_m)), (h_v, .inl (k_cI G, 4, .inl w_v))]) (rest := []) C0 (lx_odds hXW et47 H.size) (cwV 3 hts gL_law_X11_odds rfl rfl rfl e_X11_odds ⟨Nat.le_of_ble_eq_true rfl, Nat.le_of_ble_eq_true rfl⟩) hP hD hS rfl rfl he9 rfl hl.1 rfl (Nat.le_of_ble_eq_true rfl) dL_law_1673 ⟨Nat.le_of_ble_eq_true rfl, Nat.le_of_ble_eq_true rfl⟩ (fun w49 H locs hXW hP hD hS => ?_)
          replace hXW : XW G h_o σ48 w49 := by rw [eσ48]; exact hXW
          clear et47 eσ48 he9
          refine lv_lconst (v := 1) hx hb dL_law_1676 (by decide) ?_
          refine W.lcmp hx hb dL_law_1677 ?_
          refine lv_if_eq (tgt := 1683) hx hb dL_law_1678 (by decide) (fun q50 => ?_) (fun q50 => ?_)
          · replace hrun := if_t q50 hrun
            exact t_L_law_1683 C0 hAs k286 hk286 (fun x5 x6 x9 x10 w_bb w_m w_v σ => f_L_law_1629 (k_xL G) (k_xs G) k286 n x5 x6 x9 x10 w_bb w_m w_v σ) ih w49 x5 x6 x9 x10 w_bb w_m w_v σ48 _ _ _ hXW hP hD hS hl hrun
          · replace hrun := if_f q50 hrun
            refine lv_iconst (v := 0) hx hb dL_law_1681 (by decide) ?_
            exact absurd (Option.some.inj hrun) (by decide)
set_option maxHeartbeats 4000000 in
set_option maxRecDepth 100000 in
theorem t_L_law_1559 {l : Launch} {G : k_G} {p : Program} {e : Env} {s : State} {m : MethodId} {b : Nat} {below : List Frame} {meth : Method} {c : Code} {A : Nat → Prop} {h_bb h_m h_v h_o : Nat} (C0 : k_C G p s m #[Value.ref b] meth c A code RL lw_tbl 21 (some .boolean) meth.name) (hAs : ∀ q, A q → s.heap.size ≤ q) (k286 : Int32 → (Nat → Int32) → (Nat → Int32) → (Nat → Int32) → k_SB → Option (Int32)) (hk286 : ∀ (w : va_W) (x5 : Int32) (w_bb : Nat → Int32) (w_m : Nat → Int32) (w_v : Nat → Int32) (σ : k_SB) (H : Heap) (locs : List Loc) (ls : Array Slot), XW G h_o σ w → va_P G.1 vwCl ([(h_bb, .inl (k_cI G, 21, .inl w_bb)), (h_m, .inl (k_cI G, 7, .inl w_m)), (h_v, .inl (k_cI G, 4, .inl w_v))] ++ w) H → va_D A ([(h_bb, .inl (k_cI G, 21, .inl w_bb)), (h_m, .inl (k_cI G, 7, .inl w_m)), (h_v, .inl (k_cI G, 4, .inl w_v))] ++ w) → va_S A s.heap H locs → lv_has ls 21 [(0, .ref (k_xB G)), (1, .ref h_o), (3, .ref h_bb), (4, .ref h_v), (5, .int x5)] → k286 x5 w_bb w_m w_v σ = some (1 : Int32) → W p l e room_1 s m #[Value.ref b] below meth c H locs 44 13141 (lw_Z below #[Value.ref b] s) (F0 m 286 ls [])) : ∀ (n : Nat) (w : va_W) (x5 : Int32) (x6 : Int32) (x7 : Int32) (x8 : Int32) (x9 : Int32) (w_bb : Nat → Int32) (w_m : Nat → Int32) (w_v : Nat → Int32) (σ : k_SB) (H : Heap) (locs : List Loc) (ls : Array Slot), XW G h_o σ w → va_P G.1 vwCl ([(h_bb, .inl (k_cI G, 21, .inl w_bb)), (h_m, .inl (k_cI G, 7, .inl w_m)), (h_v, .inl (k_cI G, 4, .inl w_v))] ++ w) H → va_D A ([(h_bb, .inl (k_cI G, 21, .inl w_bb)), (h_m, .inl (k_cI G, 7, .inl w_m)), (h_v, .inl (k_cI G, 4, .inl w_v))] ++ w) → va_S A s.heap H locs → lv_has ls 21 [(0, .ref (k_xB G)), (1, .ref h_o), (3, .ref h_bb), (4, .ref h_v), (5, .int x5), (6, .int x6), (7, .int x7), (8, .int x8), (9, .int x9)] → f_L_law_1559 (k_xL G) (k_xs G) k286 n x5 x6 x7 x8 x9 w_bb w_m w_v σ = some (1 : Int32) → W p l e room_1 s m #[Value.ref b] below meth c H locs 44 13141 (lw_Z below #[Value.ref b] s) (F0 m 1559 ls []) := by
  have hx := C0.1
  have hb := C0.2.1
  have hts := C0.2.2.2.1
  have hown := C0.2.2.2.2.1
  have hK := C0.2.2.2.2.2.2.2.2.1.1
  have hNW := C0.2.2.2.2.2.2.2.2.1.2.1
  have hSF := C0.2.2.2.2.2.2.2.2.1.2.2
  intro n
  induction n with
  | zero =>
    intro w x5 x6 x7 x8 x9 w_bb w_m w_v σ H locs ls hXW hP hD hS hl hrun
    rw [f_L_law_1559] at hrun
    cases hrun
  | succ n ih =>
    intro w x5 x6 x7 x8 x9 w_bb w_m w_v σ H locs ls hXW hP hD hS hl hrun
    rw [f_L_law_1559] at hrun
    refine lv_iload hx hb dL_law_1559 (lv_at hl 8 rfl) ?_
    refine lv_iload hx hb dL_law_1561 (lv_at hl 6 rfl) ?_
    refine lv_icmp_ge (tgt := 1617) hx hb dL_law_1563 (by decide) (fun q1 => ?_) (fun q1 => ?_)
    · replace hrun := if_t q1 hrun
      refine lv_iconst (v := 1) hx hb dL_law_1617 (by decide) ?_
      refine lv_iload hx hb dL_law_1618 (lv_at hl 5 rfl) ?_
      refine lv_bipush (v := 7) hx hb dL_law_1620 (by decide) ?_
      refine lv_iand hx hb dL_law_1622 ?_
      refine lv_iadd hx hb dL_law_1623 ?_
      obtain ⟨n2, en, hrun⟩ := lt_inv hrun
      refine k_nmi en ?_
      clear en
      refine lv_istore (lv' := [(9, .int n2), (0, .ref (k_xB G)), (1, .ref h_o), (3, .ref h_bb), (4, .ref h_v), (5, .int x5), (6, .int x6), (7, .int x7), (8, .int x8)]) hx hb dL_law_1624 hl (by decide) rfl (fun ls hl => ?_)
      refine lv_iconst (v := 0) hx hb dL_law_1626 (by decide) ?_
      refine lv_istore (lv' := [(10, .int (0 : Int32)), (9, .int n2), (0, .ref (k_xB G)), (1, .ref h_o), (3, .ref h_bb), (4, .ref h_v), (5, .int x5), (6, .int x6), (7, .int x7), (8, .int x8)]) hx hb dL_law_1627 hl (by decide) rfl (fun ls hl => ?_)
      exact t_L_law_1629 C0 hAs k286 hk286 kFU w x5 x6 n2 (0 : Int32) w_bb w_m w_v σ _ _ _ hXW hP hD hS (lv_sub hl [2, 3, 4, 5, 6, 7, 1, 0] rfl) hrun
    · replace hrun := if_f q1 hrun
      refine lv_aload_n hx hb dL_law_1566 rfl (lv_at hl 1 rfl) ?_
      refine lv_iload hx hb dL_law_1567 (lv_at hl 8 rfl) ?_
      obtain ⟨t3, et3, hrun⟩ := bd_inv hrun
      obtain ⟨σ4, eσ4, hrun⟩ := lt_inv hrun
      obtain ⟨fs9, he9⟩ := XW_head hXW
      refine lw_callVi (wr := [(h_bb, .inl (k_cI G, 21, .inl w_bb)), (h_m, .inl (k_cI G, 7, .inl w_m)), (h_v, .inl (k_cI G, 4, .inl w_v))]) (rest := []) C0 (lx_fitAt hXW et3 H.size) (cwV 1 hts gL_law_X11_fitAt rfl rfl rfl e_X11_fitAt ⟨Nat.le_of_ble_eq_true rfl, Nat.le_of_ble_eq_true rfl⟩) hP hD hS rfl rfl he9 rfl hl.1 rfl (Nat.le_of_ble_eq_true rfl) dL_law_1569 ⟨Nat.le_of_ble_eq_true rfl, Nat.le_of_ble_eq_true rfl⟩ (fun w5 H locs hXW hP hD hS => ?_)
      replace hXW : XW G h_o σ4 w5 := by rw [eσ4]; exact hXW
      clear et3 eσ4 he9
      refine lv_istore (lv' := [(10, .int t3.1), (0, .ref (k_xB G)), (1, .ref h_o), (3, .ref h_bb), (4, .ref h_v), (5, .int x5), (6, .int x6), (7, .int x7), (8, .int x8), (9, .int x9)]) hx hb dL_law_1572 hl (by decide) rfl (fun ls hl => ?_)
      refine lv_iload hx hb dL_law_1574 (lv_at hl 0 rfl) ?_
      refine lv_iload hx hb dL_law_1576 (lv_at hl 8 rfl) ?_
      refine lv_icmp_le (tgt := 1605) hx hb dL_law_1578 (by decide) (fun q6 => ?_) (fun q6 => ?_)
      · replace hrun := if_t q6 hrun
        refine lv_iconst (v := 0) hx hb dL_law_1605 (by decide) ?_
        exact absurd (Option.some.inj hrun) (by decide)
      · replace hrun := if_f q6 hrun
        refine lv_iload hx hb dL_law_1581 (lv_at hl 0 rfl) ?_
        refine lv_aload_n hx hb dL_law_1583 rfl (lv_at hl 2 rfl) ?_
        obtain ⟨t7, et7, hrun⟩ := bd_inv hrun
        obtain ⟨σ8, eσ8, hrun⟩ := lt_inv hrun
        obtain ⟨fs9, he9⟩ := XW_head hXW
        refine lw_callVi (wr := [(h_bb, .inl (k_cI G, 21, .inl w_bb)), (h_m, .inl (k_cI G, 7, .inl w_m)), (h_v, .inl (k_cI G, 4, .inl w_v))]) (rest := [.int t3.1]) C0 (lx_could hXW et7 H.size) (cwV 0 hts gL_law_X11_could rfl rfl rfl e_X11_could ⟨Nat.le_of_ble_eq_true rfl, Nat.le_of_ble_eq_true rfl⟩) hP hD hS rfl rfl he9 rfl hl.1 rfl (Nat.le_of_ble_eq_true rfl) dL_law_1584 ⟨Nat.le_of_ble_eq_true rfl, Nat.le_of_ble_eq_true rfl⟩ (fun w9 H locs hXW hP hD hS => ?_)
        replace hXW : XW G h_o σ8 w9 := by rw [eσ8]; exact hXW
        clear et7 eσ8 he9
        refine lv_iconst (v := -1) hx hb dL_law_1587 (by decide) ?_
        refine lv_ixor hx hb dL_law_1588 ?_
        refine lv_iand hx hb dL_law_1589 ?_
        refine lv_if_ne (tgt := 1605) hx hb dL_law_1590 (by decide) (fun q10 => ?_) (fun q10 => ?_)
        · replace hrun := if_f q10 hrun
          refine lv_iconst (v := 0) hx hb dL_law_1605 (by decide) ?_
          exact absurd (Option.some.inj hrun) (by decide)
        · replace hrun := if_t q10 hrun
          refine lv_aload_n hx hb dL_law_1593 rfl (lv_at hl 2 rfl) ?_
          obtain ⟨t11, et11, hrun⟩ := bd_inv hrun
          obtain ⟨σ12, eσ12, hrun⟩ := lt_inv hrun
          obtain ⟨fs9, he9⟩ := XW_head hXW
          refine lw_callVi (wr := [(h_bb, .inl (k_cI G, 21, .inl w_bb)), (h_m, .inl (k_cI G, 7, .inl w_m)), (h_v, .inl (k_cI G, 4, .inl w_v))]) (rest := []) C0 (lx_surely hXW et11 H.size) (cwV 0 hts gL_law_X11_surely rfl rfl rfl e_X11_surely ⟨Nat.le_of_ble_eq_true rfl, Nat.le_of_ble_eq_true rfl⟩) hP hD hS rfl rfl he9 rfl hl.1 rfl (Nat.le_of_ble_eq_true rfl) dL_law_1594 ⟨Nat.le_of_ble_eq_true rfl, Nat.le_of_ble_eq_true rfl⟩ (fun w13 H locs hXW hP hD hS => ?_)
          replace hXW : XW G h_o σ12 w13 := by rw [eσ12]; exact hXW
          clear et11 eσ12 he9
          refine lv_iload hx hb dL_law_1597 (lv_at hl 0 rfl) ?_
          refine lv_iconst (v := -1) hx hb dL_law_1599 (by decide) ?_
          refine lv_ixor hx hb dL_law_1600 ?_
          refine lv_iand hx hb dL_law_1601 ?_
          refine lv_if_eq (tgt := 1607) hx hb dL_law_1602 (by decide) (fun q14 => ?_) (fun q14 => ?_)
          · replace hrun := if_t q14 hrun
            refine lv_iload hx hb dL_law_1607 (lv_at hl 0 rfl) ?_
            refine lv_istore (lv' := [(8, .int t3.1), (10, .int t3.1), (0, .ref (k_xB G)), (1, .ref h_o), (3, .ref h_bb), (4, .ref h_v), (5, .int x5), (6, .int x6), (7, .int x7), (9, .int x9)]) hx hb dL_law_1609 hl (by decide) rfl (fun ls hl => ?_)
            refine lv_iinc (v := x9 + 1) (lv' := [(9, .int (x9 + 1)), (8, .int t3.1), (10, .int t3.1), (0, .ref (k_xB G)), (1, .ref h_o), (3, .ref h_bb), (4, .ref h_v), (5, .int x5), (6, .int x6), (7, .int x7)]) hx hb dL_law_1611 hl (k := 9) rfl rfl (by decide) rfl (fun ls hl => ?_)
            refine lv_goto (tgt := 1559) hx hb dL_law_1614 (by decide) ?_
            exact ih w13 x5 x6 x7 t3.1 (x9 + 1) w_bb w_m w_v σ12 _ _ _ hXW hP hD hS (lv_sub hl [3, 4, 5, 6, 7, 8, 9, 1, 0] rfl) hrun
          · replace hrun := if_f q14 hrun
            refine lv_iconst (v := 0) hx hb dL_law_1605 (by decide) ?_
            exact absurd (Option.some.inj hrun) (by decide)
set_option maxHeartbeats 4000000 in
set_option maxRecDepth 100000 in
theorem t_L_law_1534 {l : Launch} {G : k_G} {p : Program} {e : Env} {s : State} {m : MethodId} {b : Nat} {below : List Frame} {meth : Method} {c : Code} {A : Nat → Prop} {h_bb h_m h_v h_o : Nat} (C0 : k_C G p s m #[Value.ref b] meth c A code RL lw_tbl 21 (some .boolean) meth.name) (hAs : ∀ q, A q → s.heap.size ≤ q) (k286 : Int32 → (Nat → Int32) → (Nat → Int32) → (Nat → Int32) → k_SB → Option (Int32)) (hk286 : ∀ (w : va_W) (x5 : Int32) (w_bb : Nat → Int32) (w_m : Nat → Int32) (w_v : Nat → Int32) (σ : k_SB) (H : Heap) (locs : List Loc) (ls : Array Slot), XW G h_o σ w → va_P G.1 vwCl ([(h_bb, .inl (k_cI G, 21, .inl w_bb)), (h_m, .inl (k_cI G, 7, .inl w_m)), (h_v, .inl (k_cI G, 4, .inl w_v))] ++ w) H → va_D A ([(h_bb, .inl (k_cI G, 21, .inl w_bb)), (h_m, .inl (k_cI G, 7, .inl w_m)), (h_v, .inl (k_cI G, 4, .inl w_v))] ++ w) → va_S A s.heap H locs → lv_has ls 21 [(0, .ref (k_xB G)), (1, .ref h_o), (3, .ref h_bb), (4, .ref h_v), (5, .int x5)] → k286 x5 w_bb w_m w_v σ = some (1 : Int32) → W p l e room_1 s m #[Value.ref b] below meth c H locs 44 13141 (lw_Z below #[Value.ref b] s) (F0 m 286 ls [])) : ∀ (w : va_W) (x5 : Int32) (x6 : Int32) (x7 : Int32) (s0 : Int32) (s1 : Int32) (w_bb : Nat → Int32) (w_m : Nat → Int32) (w_v : Nat → Int32) (σ : k_SB) (H : Heap) (locs : List Loc) (ls : Array Slot), XW G h_o σ w → va_P G.1 vwCl ([(h_bb, .inl (k_cI G, 21, .inl w_bb)), (h_m, .inl (k_cI G, 7, .inl w_m)), (h_v, .inl (k_cI G, 4, .inl w_v))] ++ w) H → va_D A ([(h_bb, .inl (k_cI G, 21, .inl w_bb)), (h_m, .inl (k_cI G, 7, .inl w_m)), (h_v, .inl (k_cI G, 4, .inl w_v))] ++ w) → va_S A s.heap H locs → lv_has ls 21 [(0, .ref (k_xB G)), (1, .ref h_o), (3, .ref h_bb), (4, .ref h_v), (5, .int x5), (6, .int x6), (7, .int x7)] → f_L_law_1534 (k_xL G) (k_xs G) k286 x5 x6 x7 s0 s1 w_bb w_m w_v σ = some (1 : Int32) → W p l e room_1 s m #[Value.ref b] below meth c H locs 44 13141 (lw_Z below #[Value.ref b] s) (F0 m 1534 ls [.int s1, .int s0]) := by
  have hx := C0.1
  have hb := C0.2.1
  have hts := C0.2.2.2.1
  have hown := C0.2.2.2.2.1
  have hK := C0.2.2.2.2.2.2.2.2.1.1
  have hNW := C0.2.2.2.2.2.2.2.2.1.2.1
  have hSF := C0.2.2.2.2.2.2.2.2.1.2.2
  intro w x5 x6 x7 s0 s1 w_bb w_m w_v σ H locs ls hXW hP hD hS hl hrun
  rw [f_L_law_1534] at hrun
  refine lv_icmp_ne (tgt := 1551) hx hb dL_law_1534 (by decide) (fun q1 => ?_) (fun q1 => ?_)
  · replace hrun := if_f q1 hrun
    refine lv_iconst (v := 0) hx hb dL_law_1551 (by decide) ?_
    exact absurd (Option.some.inj hrun) (by decide)
  · replace hrun := if_t q1 hrun
    refine lv_aload_n hx hb dL_law_1537 rfl (lv_at hl 1 rfl) ?_
    obtain ⟨t2, et2, hrun⟩ := bd_inv hrun
    obtain ⟨σ3, eσ3, hrun⟩ := lt_inv hrun
    obtain ⟨fs9, he9⟩ := XW_head hXW
    refine lw_callVi (wr := [(h_bb, .inl (k_cI G, 21, .inl w_bb)), (h_m, .inl (k_cI G, 7, .inl w_m)), (h_v, .inl (k_cI G, 4, .inl w_v))]) (rest := []) C0 (lx_surely hXW et2 H.size) (cwV 0 hts gL_law_X11_surely rfl rfl rfl e_X11_surely ⟨Nat.le_of_ble_eq_true rfl, Nat.le_of_ble_eq_true rfl⟩) hP hD hS rfl rfl he9 rfl hl.1 rfl (Nat.le_of_ble_eq_true rfl) dL_law_1538 ⟨Nat.le_of_ble_eq_true rfl, Nat.le_of_ble_eq_true rfl⟩ (fun w4 H locs hXW hP hD hS => ?_)
    replace hXW : XW G h_o σ3 w4 := by rw [eσ3]; exact hXW
    clear et2 eσ3 he9
    refine lv_aload_n hx hb dL_law_1541 rfl (lv_at hl 1 rfl) ?_
    obtain ⟨t5, et5, hrun⟩ := bd_inv hrun
    obtain ⟨σ6, eσ6, hrun⟩ := lt_inv hrun
    obtain ⟨fs9, he9⟩ := XW_head hXW
    refine lw_callVi (wr := [(h_bb, .inl (k_cI G, 21, .inl w_bb)), (h_m, .inl (k_cI G, 7, .inl w_m)), (h_v, .inl (k_cI G, 4, .inl w_v))]) (rest := [.int t2.1]) C0 (lx_could hXW et5 H.size) (cwV 0 hts gL_law_X11_could rfl rfl rfl e_X11_could ⟨Nat.le_of_ble_eq_true rfl, Nat.le_of_ble_eq_true rfl⟩) hP hD hS rfl rfl he9 rfl hl.1 rfl (Nat.le_of_ble_eq_true rfl) dL_law_1542 ⟨Nat.le_of_ble_eq_true rfl, Nat.le_of_ble_eq_true rfl⟩ (fun w7 H locs hXW hP hD hS => ?_)
    replace hXW : XW G h_o σ6 w7 := by rw [eσ6]; exact hXW
    clear et5 eσ6 he9
    refine lv_iconst (v := -1) hx hb dL_law_1545 (by decide) ?_
    refine lv_ixor hx hb dL_law_1546 ?_
    refine lv_iand hx hb dL_law_1547 ?_
    refine lv_if_eq (tgt := 1553) hx hb dL_law_1548 (by decide) (fun q8 => ?_) (fun q8 => ?_)
    · replace hrun := if_t q8 hrun
      refine lv_iconst (v := -1) hx hb dL_law_1553 (by decide) ?_
      refine lv_istore (lv' := [(8, .int (-1 : Int32)), (0, .ref (k_xB G)), (1, .ref h_o), (3, .ref h_bb), (4, .ref h_v), (5, .int x5), (6, .int x6), (7, .int x7)]) hx hb dL_law_1554 hl (by decide) rfl (fun ls hl => ?_)
      refine lv_iconst (v := 0) hx hb dL_law_1556 (by decide) ?_
      refine lv_istore (lv' := [(9, .int (0 : Int32)), (8, .int (-1 : Int32)), (0, .ref (k_xB G)), (1, .ref h_o), (3, .ref h_bb), (4, .ref h_v), (5, .int x5), (6, .int x6), (7, .int x7)]) hx hb dL_law_1557 hl (by decide) rfl (fun ls hl => ?_)
      exact t_L_law_1559 C0 hAs k286 hk286 kFU w7 x5 x6 x7 (-1 : Int32) (0 : Int32) w_bb w_m w_v σ6 _ _ _ hXW hP hD hS (lv_sub hl [2, 3, 4, 5, 6, 7, 8, 1, 0] rfl) hrun
    · replace hrun := if_f q8 hrun
      refine lv_iconst (v := 0) hx hb dL_law_1551 (by decide) ?_
      exact absurd (Option.some.inj hrun) (by decide)
set_option maxHeartbeats 4000000 in
set_option maxRecDepth 100000 in
theorem t_L_law_1529 {l : Launch} {G : k_G} {p : Program} {e : Env} {s : State} {m : MethodId} {b : Nat} {below : List Frame} {meth : Method} {c : Code} {A : Nat → Prop} {h_bb h_m h_v h_o : Nat} (C0 : k_C G p s m #[Value.ref b] meth c A code RL lw_tbl 21 (some .boolean) meth.name) (hAs : ∀ q, A q → s.heap.size ≤ q) (k286 : Int32 → (Nat → Int32) → (Nat → Int32) → (Nat → Int32) → k_SB → Option (Int32)) (hk286 : ∀ (w : va_W) (x5 : Int32) (w_bb : Nat → Int32) (w_m : Nat → Int32) (w_v : Nat → Int32) (σ : k_SB) (H : Heap) (locs : List Loc) (ls : Array Slot), XW G h_o σ w → va_P G.1 vwCl ([(h_bb, .inl (k_cI G, 21, .inl w_bb)), (h_m, .inl (k_cI G, 7, .inl w_m)), (h_v, .inl (k_cI G, 4, .inl w_v))] ++ w) H → va_D A ([(h_bb, .inl (k_cI G, 21, .inl w_bb)), (h_m, .inl (k_cI G, 7, .inl w_m)), (h_v, .inl (k_cI G, 4, .inl w_v))] ++ w) → va_S A s.heap H locs → lv_has ls 21 [(0, .ref (k_xB G)), (1, .ref h_o), (3, .ref h_bb), (4, .ref h_v), (5, .int x5)] → k286 x5 w_bb w_m w_v σ = some (1 : Int32) → W p l e room_1 s m #[Value.ref b] below meth c H locs 44 13141 (lw_Z below #[Value.ref b] s) (F0 m 286 ls [])) : ∀ (w : va_W) (x5 : Int32) (x6 : Int32) (x7 : Int32) (s0 : Int32) (w_bb : Nat → Int32) (w_m : Nat → Int32) (w_v : Nat → Int32) (σ : k_SB) (H : Heap) (locs : List Loc) (ls : Array Slot), XW G h_o σ w → va_P G.1 vwCl ([(h_bb, .inl (k_cI G, 21, .inl w_bb)), (h_m, .inl (k_cI G, 7, .inl w_m)), (h_v, .inl (k_cI G, 4, .inl w_v))] ++ w) H → va_D A ([(h_bb, .inl (k_cI G, 21, .inl w_bb)), (h_m, .inl (k_cI G, 7, .inl w_m)), (h_v, .inl (k_cI G, 4, .inl w_v))] ++ w) → va_S A s.heap H locs → lv_has ls 21 [(0, .ref (k_xB G)), (1, .ref h_o), (3, .ref h_bb), (4, .ref h_v), (5, .int x5), (6, .int x6), (7, .int x7)] → f_L_law_1529 (k_xL G) (k_xs G) k286 x5 x6 x7 s0 w_bb w_m w_v σ = some (1 : Int32) → W p l e room_1 s m #[Value.ref b] below meth c H locs 44 13141 (lw_Z below #[Value.ref b] s) (F0 m 1529 ls [.int s0]) := by
  have hx := C0.1
  have hb := C0.2.1
  have hts := C0.2.2.2.1
  have hown := C0.2.2.2.2.1
  have hK := C0.2.2.2.2.2.2.2.2.1.1
  have hNW := C0.2.2.2.2.2.2.2.2.1.2.1
  have hSF := C0.2.2.2.2.2.2.2.2.1.2.2
  intro w x5 x6 x7 s0 w_bb w_m w_v σ H locs ls hXW hP hD hS hl hrun
  rw [f_L_law_1529] at hrun
  refine lv_iconst (v := 1) hx hb dL_law_1529 (by decide) ?_
  refine lv_goto (tgt := 1534) hx hb dL_law_1530 (by decide) ?_
  exact t_L_law_1534 C0 hAs k286 hk286 w x5 x6 x7 s0 (1 : Int32) w_bb w_m w_v σ _ _ _ hXW hP hD hS hl hrun
set_option maxHeartbeats 4000000 in
set_option maxRecDepth 100000 in
theorem t_L_law_1517 {l : Launch} {G : k_G} {p : Program} {e : Env} {s : State} {m : MethodId} {b : Nat} {below : List Frame} {meth : Method} {c : Code} {A : Nat → Prop} {h_bb h_m h_v h_o : Nat} (C0 : k_C G p s m #[Value.ref b] meth c A code RL lw_tbl 21 (some .boolean) meth.name) (hAs : ∀ q, A q → s.heap.size ≤ q) (k286 : Int32 → (Nat → Int32) → (Nat → Int32) → (Nat → Int32) → k_SB → Option (Int32)) (hk286 : ∀ (w : va_W) (x5 : Int32) (w_bb : Nat → Int32) (w_m : Nat → Int32) (w_v : Nat → Int32) (σ : k_SB) (H : Heap) (locs : List Loc) (ls : Array Slot), XW G h_o σ w → va_P G.1 vwCl ([(h_bb, .inl (k_cI G, 21, .inl w_bb)), (h_m, .inl (k_cI G, 7, .inl w_m)), (h_v, .inl (k_cI G, 4, .inl w_v))] ++ w) H → va_D A ([(h_bb, .inl (k_cI G, 21, .inl w_bb)), (h_m, .inl (k_cI G, 7, .inl w_m)), (h_v, .inl (k_cI G, 4, .inl w_v))] ++ w) → va_S A s.heap H locs → lv_has ls 21 [(0, .ref (k_xB G)), (1, .ref h_o), (3, .ref h_bb), (4, .ref h_v), (5, .int x5)] → k286 x5 w_bb w_m w_v σ = some (1 : Int32) → W p l e room_1 s m #[Value.ref b] below meth c H locs 44 13141 (lw_Z below #[Value.ref b] s) (F0 m 286 ls [])) : ∀ (w : va_W) (x5 : Int32) (x6 : Int32) (x7 : Int32) (s0 : Int32) (w_bb : Nat → Int32) (w_m : Nat → Int32) (w_v : Nat → Int32) (σ : k_SB) (H : Heap) (locs : List Loc) (ls : Array Slot), XW G h_o σ w → va_P G.1 vwCl ([(h_bb, .inl (k_cI G, 21, .inl w_bb)), (h_m, .inl (k_cI G, 7, .inl w_m)), (h_v, .inl (k_cI G, 4, .inl w_v))] ++ w) H → va_D A ([(h_bb, .inl (k_cI G, 21, .inl w_bb)), (h_m, .inl (k_cI G, 7, .inl w_m)), (h_v, .inl (k_cI G, 4, .inl w_v))] ++ w) → va_S A s.heap H locs → lv_has ls 21 [(0, .ref (k_xB G)), (1, .ref h_o), (3, .ref h_bb), (4, .ref h_v), (5, .int x5), (6, .int x6), (7, .int x7)] → f_L_law_1517 (k_xL G) (k_xs G) k286 x5 x6 x7 s0 w_bb w_m w_v σ = some (1 : Int32) → W p l e room_1 s m #[Value.ref b] below meth c H locs 44 13141 (lw_Z below #[Value.ref b] s) (F0 m 1517 ls [.int s0]) := by
  have hx := C0.1
  have hb := C0.2.1
  have hts := C0.2.2.2.1
  have hown := C0.2.2.2.2.1
  have hK := C0.2.2.2.2.2.2.2.2.1.1
  have hNW := C0.2.2.2.2.2.2.2.2.1.2.1
  have hSF := C0.2.2.2.2.2.2.2.2.1.2.2
  intro w x5 x6 x7 s0 w_bb w_m w_v σ H locs ls hXW hP hD hS hl hrun
  rw [f_L_law_1517] at hrun
  refine lv_iload hx hb dL_law_1517 (lv_at hl 6 rfl) ?_
  refine lv_if_eq (tgt := 1529) hx hb dL_law_1519 (by decide) (fun q1 => ?_) (fun q1 => ?_)
  · replace hrun := if_t q1 hrun
    exact t_L_law_1529 C0 hAs k286 hk286 w x5 x6 x7 s0 w_bb w_m w_v σ _ _ _ hXW hP hD hS hl hrun
  · replace hrun := if_f q1 hrun
    refine lv_aload_n hx hb dL_law_1522 rfl (lv_at hl 2 rfl) ?_
    refine lv_bipush (v := 9) hx hb dL_law_1523 (by decide) ?_
    obtain ⟨gz2, hrun⟩ := gd_inv hrun
    refine va_iald hx hb hK hP 0 1 rfl rfl gz2 dL_law_1525 ?_
    refine lv_if_ne (tgt := 1533) hx hb dL_law_1526 (by decide) (fun q3 => ?_) (fun q3 => ?_)
    · replace hrun := if_f q3 hrun
      refine lv_iconst (v := 0) hx hb dL_law_1533 (by decide) ?_
      exact t_L_law_1534 C0 hAs k286 hk286 w x5 x6 x7 s0 (0 : Int32) w_bb w_m w_v σ _ _ _ hXW hP hD hS hl hrun
    · replace hrun := if_t q3 hrun
      exact t_L_law_1529 C0 hAs k286 hk286 w x5 x6 x7 s0 w_bb w_m w_v σ _ _ _ hXW hP hD hS hl hrun
set_option maxHeartbeats 4000000 in
set_option maxRecDepth 100000 in
theorem t_L_law_1496 {l : Launch} {G : k_G} {p : Program} {e : Env} {s : State} {m : MethodId} {b : Nat} {below : List Frame} {meth : Method} {c : Code} {A : Nat → Prop} {h_bb h_m h_v h_o : Nat} (C0 : k_C G p s m #[Value.ref b] meth c A code RL lw_tbl 21 (some .boolean) meth.name) (hAs : ∀ q, A q → s.heap.size ≤ q) (k286 : Int32 → (Nat → Int32) → (Nat → Int32) → (Nat → Int32) → k_SB → Option (Int32)) (hk286 : ∀ (w : va_W) (x5 : Int32) (w_bb : Nat → Int32) (w_m : Nat → Int32) (w_v : Nat → Int32) (σ : k_SB) (H : Heap) (locs : List Loc) (ls : Array Slot), XW G h_o σ w → va_P G.1 vwCl ([(h_bb, .inl (k_cI G, 21, .inl w_bb)), (h_m, .inl (k_cI G, 7, .inl w_m)), (h_v, .inl (k_cI G, 4, .inl w_v))] ++ w) H → va_D A ([(h_bb, .inl (k_cI G, 21, .inl w_bb)), (h_m, .inl (k_cI G, 7, .inl w_m)), (h_v, .inl (k_cI G, 4, .inl w_v))] ++ w) → va_S A s.heap H locs → lv_has ls 21 [(0, .ref (k_xB G)), (1, .ref h_o), (3, .ref h_bb), (4, .ref h_v), (5, .int x5)] → k286 x5 w_bb w_m w_v σ = some (1 : Int32) → W p l e room_1 s m #[Value.ref b] below meth c H locs 44 13141 (lw_Z below #[Value.ref b] s) (F0 m 286 ls [])) : ∀ (w : va_W) (x5 : Int32) (x6 : Int32) (x7 : Int32) (w_bb : Nat → Int32) (w_m : Nat → Int32) (w_v : Nat → Int32) (σ : k_SB) (H : Heap) (locs : List Loc) (ls : Array Slot), XW G h_o σ w → va_P G.1 vwCl ([(h_bb, .inl (k_cI G, 21, .inl w_bb)), (h_m, .inl (k_cI G, 7, .inl w_m)), (h_v, .inl (k_cI G, 4, .inl w_v))] ++ w) H → va_D A ([(h_bb, .inl (k_cI G, 21, .inl w_bb)), (h_m, .inl (k_cI G, 7, .inl w_m)), (h_v, .inl (k_cI G, 4, .inl w_v))] ++ w) → va_S A s.heap H locs → lv_has ls 21 [(0, .ref (k_xB G)), (1, .ref h_o), (3, .ref h_bb), (4, .ref h_v), (5, .int x5), (6, .int x6), (7, .int x7)] → f_L_law_1496 (k_xL G) (k_xs G) k286 x5 x6 x7 w_bb w_m w_v σ = some (1 : Int32) → W p l e room_1 s m #[Value.ref b] below meth c H locs 44 13141 (lw_Z below #[Value.ref b] s) (F0 m 1496 ls []) := by
  have hx := C0.1
  have hb := C0.2.1
  have hts := C0.2.2.2.1
  have hown := C0.2.2.2.2.1
  have hK := C0.2.2.2.2.2.2.2.2.1.1
  have hNW := C0.2.2.2.2.2.2.2.2.1.2.1
  have hSF := C0.2.2.2.2.2.2.2.2.1.2.2
  intro w x5 x6 x7 w_bb w_m w_v σ H locs ls hXW hP hD hS hl hrun
  rw [f_L_law_1496] at hrun
  refine lv_aload_n hx hb dL_law_1496 rfl (lv_at hl 1 rfl) ?_
  obtain ⟨t1, et1, hrun⟩ := bd_inv hrun
  obtain ⟨σ2, eσ2, hrun⟩ := lt_inv hrun
  obtain ⟨fs9, he9⟩ := XW_head hXW
  refine lw_callVi (wr := [(h_bb, .inl (k_cI G, 21, .inl w_bb)), (h_m, .inl (k_cI G, 7, .inl w_m)), (h_v, .inl (k_cI G, 4, .inl w_v))]) (rest := []) C0 (lx_askLeaves hXW et1 H.size) (cwV 0 hts gL_law_X11_askLeaves rfl rfl rfl e_X11_askLeaves ⟨Nat.le_of_ble_eq_true rfl, Nat.le_of_ble_eq_true rfl⟩) hP hD hS rfl rfl he9 rfl hl.1 rfl (Nat.le_of_ble_eq_true rfl) dL_law_1497 ⟨Nat.le_of_ble_eq_true rfl, Nat.le_of_ble_eq_true rfl⟩ (fun w3 H locs hXW hP hD hS => ?_)
  replace hXW : XW G h_o σ2 w3 := by rw [eσ2]; exact hXW
  clear et1 eσ2 he9
  refine lv_iload hx hb dL_law_1500 (lv_at hl 6 rfl) ?_
  refine lv_icmp_gt (tgt := 1551) hx hb dL_law_1502 (by decide) (fun q4 => ?_) (fun q4 => ?_)
  · replace hrun := if_t q4 hrun
    refine lv_iconst (v := 0) hx hb dL_law_1551 (by decide) ?_
    exact absurd (Option.some.inj hrun) (by decide)
  · replace hrun := if_f q4 hrun
    refine lv_aload_n hx hb dL_law_1505 rfl (lv_at hl 1 rfl) ?_
    obtain ⟨t5, et5, hrun⟩ := bd_inv hrun
    obtain ⟨σ6, eσ6, hrun⟩ := lt_inv hrun
    obtain ⟨fs9, he9⟩ := XW_head hXW
    refine lw_callVi (wr := [(h_bb, .inl (k_cI G, 21, .inl w_bb)), (h_m, .inl (k_cI G, 7, .inl w_m)), (h_v, .inl (k_cI G, 4, .inl w_v))]) (rest := []) C0 (lx_ask hXW et5 H.size) (cwV 0 hts gL_law_X11_ask rfl rfl rfl e_X11_ask ⟨Nat.le_of_ble_eq_true rfl, Nat.le_of_ble_eq_true rfl⟩) hP hD hS rfl rfl he9 rfl hl.1 rfl (Nat.le_of_ble_eq_true rfl) dL_law_1506 ⟨Nat.le_of_ble_eq_true rfl, Nat.le_of_ble_eq_true rfl⟩ (fun w7 H locs hXW hP hD hS => ?_)
    replace hXW : XW G h_o σ6 w7 := by rw [eσ6]; exact hXW
    clear et5 eσ6 he9
    refine lv_if_ge (tgt := 1516) hx hb dL_law_1509 (by decide) (fun q8 => ?_) (fun q8 => ?_)
    · replace hrun := if_t q8 hrun
      refine lv_iconst (v := 0) hx hb dL_law_1516 (by decide) ?_
      exact t_L_law_1517 C0 hAs k286 hk286 w7 x5 x6 x7 (0 : Int32) w_bb w_m w_v σ6 _ _ _ hXW hP hD hS hl hrun
    · replace hrun := if_f q8 hrun
      refine lv_iconst (v := 1) hx hb dL_law_1512 (by decide) ?_
      refine lv_goto (tgt := 1517) hx hb dL_law_1513 (by decide) ?_
      exact t_L_law_1517 C0 hAs k286 hk286 w7 x5 x6 x7 (1 : Int32) w_bb w_m w_v σ6 _ _ _ hXW hP hD hS hl hrun
set_option maxHeartbeats 4000000 in
set_option maxRecDepth 100000 in
theorem t_L_law_305 {l : Launch} {G : k_G} {p : Program} {e : Env} {s : State} {m : MethodId} {b : Nat} {below : List Frame} {meth : Method} {c : Code} {A : Nat → Prop} {h_bb h_m h_v h_o : Nat} (C0 : k_C G p s m #[Value.ref b] meth c A code RL lw_tbl 21 (some .boolean) meth.name) (hAs : ∀ q, A q → s.heap.size ≤ q) (k286 : Int32 → (Nat → Int32) → (Nat → Int32) → (Nat → Int32) → k_SB → Option (Int32)) (hk286 : ∀ (w : va_W) (x5 : Int32) (w_bb : Nat → Int32) (w_m : Nat → Int32) (w_v : Nat → Int32) (σ : k_SB) (H : Heap) (locs : List Loc) (ls : Array Slot), XW G h_o σ w → va_P G.1 vwCl ([(h_bb, .inl (k_cI G, 21, .inl w_bb)), (h_m, .inl (k_cI G, 7, .inl w_m)), (h_v, .inl (k_cI G, 4, .inl w_v))] ++ w) H → va_D A ([(h_bb, .inl (k_cI G, 21, .inl w_bb)), (h_m, .inl (k_cI G, 7, .inl w_m)), (h_v, .inl (k_cI G, 4, .inl w_v))] ++ w) → va_S A s.heap H locs → lv_has ls 21 [(0, .ref (k_xB G)), (1, .ref h_o), (3, .ref h_bb), (4, .ref h_v), (5, .int x5)] → k286 x5 w_bb w_m w_v σ = some (1 : Int32) → W p l e room_1 s m #[Value.ref b] below meth c H locs 44 13141 (lw_Z below #[Value.ref b] s) (F0 m 286 ls [])) : ∀ (n : Nat) (w : va_W) (x5 : Int32) (x6 : Int32) (x7 : Int32) (w_bb : Nat → Int32) (w_m : Nat → Int32) (w_v : Nat → Int32) (σ : k_SB) (H : Heap) (locs : List Loc) (ls : Array Slot), XW G h_o σ w → va_P G.1 vwCl ([(h_bb, .inl (k_cI G, 21, .inl w_bb)), (h_m, .inl (k_cI G, 7, .inl w_m)), (h_v, .inl (k_cI G, 4, .inl w_v))] ++ w) H → va_D A ([(h_bb, .inl (k_cI G, 21, .inl w_bb)), (h_m, .inl (k_cI G, 7, .inl w_m)), (h_v, .inl (k_cI G, 4, .inl w_v))] ++ w) → va_S A s.heap H locs → lv_has ls 21 [(0, .ref (k_xB G)), (1, .ref h_o), (3, .ref h_bb), (4, .ref h_v), (5, .int x5), (6, .int x6), (7, .int x7)] → f_L_law_305 (k_xL G) (k_xs G) k286 n x5 x6 x7 w_bb w_m w_v σ = some (1 : Int32) → W p l e room_1 s m #[Value.ref b] below meth c H locs 44 13141 (lw_Z below #[Value.ref b] s) (F0 m 305 ls []) := by
  have hx := C0.1
  have hb := C0.2.1
  have hts := C0.2.2.2.1
  have hown := C0.2.2.2.2.1
  have hK := C0.2.2.2.2.2.2.2.2.1.1
  have hNW := C0.2.2.2.2.2.2.2.2.1.2.1
  have hSF := C0.2.2.2.2.2.2.2.2.1.2.2
  intro n
  induction n with
  | zero =>
    intro w x5 x6 x7 w_bb w_m w_v σ H locs ls hXW hP hD hS hl hrun
    rw [f_L_law_305] at hrun
    cases hrun
  | succ n ih =>
    intro w x5 x6 x7 w_bb w_m w_v σ H locs ls hXW hP hD hS hl hrun
    rw [f_L_law_305] at hrun
    refine lv_iload hx hb dL_law_305 (lv_at hl 6 rfl) ?_
    refine lv_aload_n hx hb dL_law_307 rfl (lv_at hl 2 rfl) ?_
    refine lv_iconst (v := 4) hx hb dL_law_308 (by decide) ?_
    obtain ⟨gz1, hrun⟩ := gd_inv hrun
    refine va_iald hx hb hK hP 0 1 rfl rfl gz1 dL_law_309 ?_
    refine lv_icmp_ge (tgt := 1467) hx hb dL_law_310 (by decide) (fun q2 => ?_) (fun q2 => ?_)
    · replace hrun := if_t q2 hrun
      refine lv_aload_n hx hb dL_law_1467 rfl (lv_at hl 1 rfl) ?_
      obtain ⟨t3, et3, hrun⟩ := bd_inv hrun
      obtain ⟨σ4, eσ4, hrun⟩ := lt_inv hrun
      obtain ⟨fs9, he9⟩ := XW_head hXW
      refine lw_callVi (wr := [(h_bb, .inl (k_cI G, 21, .inl w_bb)), (h_m, .inl (k_cI G, 7, .inl w_m)), (h_v, .inl (k_cI G, 4, .inl w_v))]) (rest := []) C0 (lx_fits hXW et3 H.size) (cwV 0 hts gL_law_X11_fits rfl rfl rfl e_X11_fits ⟨Nat.le_of_ble_eq_true rfl, Nat.le_of_ble_eq_true rfl⟩) hP hD hS rfl rfl he9 rfl hl.1 rfl (Nat.le_of_ble_eq_true rfl) dL_law_1468 ⟨Nat.le_of_ble_eq_true rfl, Nat.le_of_ble_eq_true rfl⟩ (fun w5 H locs hXW hP hD hS => ?_)
      replace hXW : XW G h_o σ4 w5 := by rw [eσ4]; exact hXW
      clear et3 eσ4 he9
      refine lv_istore (lv' := [(7, .int t3.1), (0, .ref (k_xB G)), (1, .ref h_o), (3, .ref h_bb), (4, .ref h_v), (5, .int x5), (6, .int x6)]) hx hb dL_law_1471 hl (by decide) rfl (fun ls hl => ?_)
      refine lv_iload hx hb dL_law_1473 (lv_at hl 0 rfl) ?_
      refine lv_iconst (v := 1) hx hb dL_law_1475 (by decide) ?_
      refine lv_aload_n hx hb dL_law_1476 rfl (lv_at hl 3 rfl) ?_
      refine lv_bipush (v := 9) hx hb dL_law_1477 (by decide) ?_
      obtain ⟨gz6, hrun⟩ := gd_inv hrun
      refine va_iald hx hb hK hP 0 1 rfl rfl gz6 dL_law_1479 ?_
      refine lv_ishl hx hb dL_law_1480 ?_
      refine lv_icmp_gt (tgt := 1551) hx hb dL_law_1481 (by decide) (fun q7 => ?_) (fun q7 => ?_)
      · replace hrun := if_t q7 hrun
        refine lv_iconst (v := 0) hx hb dL_law_1551 (by decide) ?_
        exact absurd (Option.some.inj hrun) (by decide)
      · replace hrun := if_f q7 hrun
        refine lv_aload_n hx hb dL_law_1484 rfl (lv_at hl 2 rfl) ?_
        obtain ⟨t8, et8, hrun⟩ := bd_inv hrun
        obtain ⟨σ9, eσ9, hrun⟩ := lt_inv hrun
        obtain ⟨fs9, he9⟩ := XW_head hXW
        refine lw_callVi (wr := [(h_bb, .inl (k_cI G, 21, .inl w_bb)), (h_m, .inl (k_cI G, 7, .inl w_m)), (h_v, .inl (k_cI G, 4, .inl w_v))]) (rest := []) C0 (lx_judge hXW et8 H.size) (cwV 0 hts gL_law_X11_judge rfl rfl rfl e_X11_judge ⟨Nat.le_of_ble_eq_true rfl, Nat.le_of_ble_eq_true rfl⟩) hP hD hS rfl rfl he9 rfl hl.1 rfl (Nat.le_of_ble_eq_true rfl) dL_law_1485 ⟨Nat.le_of_ble_eq_true rfl, Nat.le_of_ble_eq_true rfl⟩ (fun w10 H locs hXW hP hD hS => ?_)
        replace hXW : XW G h_o σ9 w10 := by rw [eσ9]; exact hXW
        clear et8 eσ9 he9
        refine lv_if_ge (tgt := 1496) hx hb dL_law_1488 (by decide) (fun q11 => ?_) (fun q11 => ?_)
        · replace hrun := if_t q11 hrun
          exact t_L_law_1496 C0 hAs k286 hk286 w10 x5 x6 t3.1 w_bb w_m w_v σ9 _ _ _ hXW hP hD hS (lv_sub hl [1, 2, 3, 4, 5, 6, 0] rfl) hrun
        · replace hrun := if_f q11 hrun
          refine lv_iload hx hb dL_law_1491 (lv_at hl 0 rfl) ?_
          refine lv_if_eq (tgt := 1551) hx hb dL_law_1493 (by decide) (fun q12 => ?_) (fun q12 => ?_)
          · replace hrun := if_t q12 hrun
            refine lv_iconst (v := 0) hx hb dL_law_1551 (by decide) ?_
            exact absurd (Option.some.inj hrun) (by decide)
          · replace hrun := if_f q12 hrun
            exact t_L_law_1496 C0 hAs k286 hk286 w10 x5 x6 t3.1 w_bb w_m w_v σ9 _ _ _ hXW hP hD hS (lv_sub hl [1, 2, 3, 4, 5, 6, 0] rfl) hrun
    · replace hrun := if_f q2 hrun
      refine lv_aload_n hx hb dL_law_313 rfl (lv_at hl 1 rfl) ?_
      refine lv_iload hx hb dL_law_314 (lv_at hl 6 rfl) ?_
      refine lv_iconst (v := 0) hx hb dL_law_316 (by decide) ?_
      obtain ⟨t13, et13, hrun⟩ := bd_inv hrun
      obtain ⟨σ14, eσ14, hrun⟩ := lt_inv hrun
      obtain ⟨fs9, he9⟩ := XW_head hXW
      refine lw_callVi (wr := [(h_bb, .inl (k_cI G, 21, .inl w_bb)), (h_m, .inl (k_cI G, 7, .inl w_m)), (h_v, .inl (k_cI G, 4, .inl w_v))]) (rest := []) C0 (lx_stack hXW et13 H.size) (cwV 2 hts gL_law_X11_stack rfl rfl rfl e_X11_stack ⟨Nat.le_of_ble_eq_true rfl, Nat.le_of_ble_eq_true rfl⟩) hP hD hS rfl rfl he9 rfl hl.1 rfl (Nat.le_of_ble_eq_true rfl) dL_law_317 ⟨Nat.le_of_ble_eq_true rfl, Nat.le_of_ble_eq_true rfl⟩ (fun w15 H locs hXW hP hD hS => ?_)
      replace hXW : XW G h_o σ14 w15 := by rw [eσ14]; exact hXW
      clear et13 eσ14 he9
      refine lv_istore (lv' := [(8, .int t13.1), (0, .ref (k_xB G)), (1, .ref h_o), (3, .ref h_bb), (4, .ref h_v), (5, .int x5), (6, .int x6), (7, .int x7)]) hx hb dL_law_320 hl (by decide) rfl (fun ls hl => ?_)
      refine lv_aload_n hx hb dL_law_322 rfl (lv_at hl 2 rfl) ?_
      refine lv_iload hx hb dL_law_323 (lv_at hl 7 rfl) ?_
      refine lv_iconst (v := 1) hx hb dL_law_325 (by decide) ?_
      obtain ⟨t16, et16, hrun⟩ := bd_inv hrun
      obtain ⟨σ17, eσ17, hrun⟩ := lt_inv hrun
      obtain ⟨fs9, he9⟩ := XW_head hXW
      refine lw_callVi (wr := [(h_bb, .inl (k_cI G, 21, .inl w_bb)), (h_m, .inl (k_cI G, 7, .inl w_m)), (h_v, .inl (k_cI G, 4, .inl w_v))]) (rest := []) C0 (lx_stack hXW et16 H.size) (cwV 2 hts gL_law_X11_stack rfl rfl rfl e_X11_stack ⟨Nat.le_of_ble_eq_true rfl, Nat.le_of_ble_eq_true rfl⟩) hP hD hS rfl rfl he9 rfl hl.1 rfl (Nat.le_of_ble_eq_true rfl) dL_law_326 ⟨Nat.le_of_ble_eq_true rfl, Nat.le_of_ble_eq_true rfl⟩ (fun w18 H locs hXW hP hD hS => ?_)
      replace hXW : XW G h_o σ17 w18 := by rw [eσ17]; exact hXW
      clear et16 eσ17 he9
      refine lv_istore (lv' := [(9, .int t16.1), (8, .int t13.1), (0, .ref (k_xB G)), (1, .ref h_o), (3, .ref h_bb), (4, .ref h_v), (5, .int x5), (6, .int x6), (7, .int x7)]) hx hb dL_law_329 hl (by decide) rfl (fun ls hl => ?_)
      refine lv_aload_n hx hb dL_law_331 rfl (lv_at hl 3 rfl) ?_
      refine lv_iload hx hb dL_law_332 (lv_at hl 8 rfl) ?_
      refine lv_iconst (v := 2) hx hb dL_law_334 (by decide) ?_
      obtain ⟨t19, et19, hrun⟩ := bd_inv hrun
      obtain ⟨σ20, eσ20, hrun⟩ := lt_inv hrun
      obtain ⟨fs9, he9⟩ := XW_head hXW
      refine lw_callVi (wr := [(h_bb, .inl (k_cI G, 21, .inl w_bb)), (h_m, .inl (k_cI G, 7, .inl w_m)), (h_v, .inl (k_cI G, 4, .inl w_v))]) (rest := []) C0 (lx_stack hXW et19 H.size) (cwV 2 hts gL_law_X11_stack rfl rfl rfl e_X11_stack ⟨Nat.le_of_ble_eq_true rfl, Nat.le_of_ble_eq_true rfl⟩) hP hD hS rfl rfl he9 rfl hl.1 rfl (Nat.le_of_ble_eq_true rfl) dL_law_335 ⟨Nat.le_of_ble_eq_true rfl, Nat.le_of_ble_eq_true rfl⟩ (fun w21 H locs hXW hP hD hS => ?_)
      replace hXW : XW G h_o σ20 w21 := by rw [eσ20]; exact hXW
      clear et19 eσ20 he9
      refine lv_istore (lv' := [(10, .int t19.1), (9, .int t16.1), (8, .int t13.1), (0, .ref (k_xB G)), (1, .ref h_o), (3, .ref h_bb), (4, .ref h_v), (5, .int x5), (6, .int x6), (7, .int x7)]) hx hb dL_law_338 hl (by decide) rfl (fun ls hl => ?_)
      refine lv_iload hx hb dL_law_340 (lv_at hl 0 rfl) ?_
      refine lv_iload hx hb dL_law_342 (lv_at hl 2 rfl) ?_
      refine lv_icmp_eq (tgt := 356) hx hb dL_law_344 (by decide) (fun q22 => ?_) (fun q22 => ?_)
      · replace hrun := if_t q22 hrun
        exact t_L_law_356 C0 hAs k286 hk286 (fun x5 x6 x7 w_bb w_m w_v σ => f_L_law_305 (k_xL G) (k_xs G) k286 n x5 x6 x7 w_bb w_m w_v σ) ih w21 x5 x6 x7 t13.1 t16.1 t19.1 w_bb w_m w_v σ20 _ _ _ hXW hP hD hS (lv_sub hl [3, 4, 5, 6, 7, 8, 9, 2, 1, 0] rfl) hrun
      · replace hrun := if_f q22 hrun
        refine lv_iload hx hb dL_law_347 (lv_at hl 0 rfl) ?_
        refine lv_iconst (v := 3) hx hb dL_law_349 (by decide) ?_
        refine lv_iload hx hb dL_law_350 (lv_at hl 2 rfl) ?_
        refine lv_imul hx hb dL_law_352 ?_
        refine lv_icmp_ne (tgt := 414) hx hb dL_law_353 (by decide) (fun q23 => ?_) (fun q23 => ?_)
        · replace hrun := if_f q23 hrun
          refine lv_iconst (v := 0) hx hb dL_law_414 (by decide) ?_
          exact absurd (Option.some.inj hrun) (by decide)
        · replace hrun := if_t q23 hrun
          exact t_L_law_356 C0 hAs k286 hk286 (fun x5 x6 x7 w_bb w_m w_v σ => f_L_law_305 (k_xL G) (k_xs G) k286 n x5 x6 x7 w_bb w_m w_v σ) ih w21 x5 x6 x7 t13.1 t16.1 t19.1 w_bb w_m w_v σ20 _ _ _ hXW hP hD hS (lv_sub hl [3, 4, 5, 6, 7, 8, 9, 2, 1, 0] rfl) hrun
set_option maxHeartbeats 4000000 in
set_option maxRecDepth 100000 in
theorem t_L_law_1920 {l : Launch} {G : k_G} {p : Program} {e : Env} {s : State} {m : MethodId} {b : Nat} {below : List Frame} {meth : Method} {c : Code} {A : Nat → Prop} {h_bb h_m h_v h_o : Nat} (C0 : k_C G p s m #[Value.ref b] meth c A code RL lw_tbl 21 (some .boolean) meth.name) (hAs : ∀ q, A q → s.heap.size ≤ q) : ∀ (n : Nat) (w : va_W) (x5 : Int32) (w_bb : Nat → Int32) (w_m : Nat → Int32) (w_v : Nat → Int32) (σ : k_SB) (H : Heap) (locs : List Loc) (ls : Array Slot), XW G h_o σ w → va_P G.1 vwCl ([(h_bb, .inl (k_cI G, 21, .inl w_bb)), (h_m, .inl (k_cI G, 7, .inl w_m)), (h_v, .inl (k_cI G, 4, .inl w_v))] ++ w) H → va_D A ([(h_bb, .inl (k_cI G, 21, .inl w_bb)), (h_m, .inl (k_cI G, 7, .inl w_m)), (h_v, .inl (k_cI G, 4, .inl w_v))] ++ w) → va_S A s.heap H locs → lv_has ls 21 [(1, .ref h_o), (3, .ref h_bb), (5, .int x5)] → f_L_law_1920 (k_xL G) (k_xs G) n x5 w_bb w_m w_v σ = some (1 : Int32) → W p l e room_1 s m #[Value.ref b] below meth c H locs 44 13141 (lw_Z below #[Value.ref b] s) (F0 m 1920 ls []) := by
  have hx := C0.1
  have hb := C0.2.1
  have hts := C0.2.2.2.1
  have hown := C0.2.2.2.2.1
  have hK := C0.2.2.2.2.2.2.2.2.1.1
  have hNW := C0.2.2.2.2.2.2.2.2.1.2.1
  have hSF := C0.2.2.2.2.2.2.2.2.1.2.2
  intro n
  induction n with
  | zero =>
    intro w x5 w_bb w_m w_v σ H locs ls hXW hP hD hS hl hrun
    rw [f_L_law_1920] at hrun
    cases hrun
  | succ n ih =>
    intro w x5 w_bb w_m w_v σ H locs ls hXW hP hD hS hl hrun
    rw [f_L_law_1920] at hrun
    refine lv_iload hx hb dL_law_1920 (lv_at hl 2 rfl) ?_
    refine lv_aload_n hx hb dL_law_1922 rfl (lv_at hl 1 rfl) ?_
    refine lv_iconst (v := 4) hx hb dL_law_1923 (by decide) ?_
    obtain ⟨gz1, hrun⟩ := gd_inv hrun
    refine va_iald hx hb hK hP 0 1 rfl rfl gz1 dL_law_1924 ?_
    refine lv_icmp_ge (tgt := 1973) hx hb dL_law_1925 (by decide) (fun q2 => ?_) (fun q2 => ?_)
    · replace hrun := if_t q2 hrun
      refine lv_iconst (v := 1) hx hb dL_law_1973 (by decide) ?_
      exact lw_end C0 hAs hS dL_law_1974
    · replace hrun := if_f q2 hrun
      refine lv_aload_n hx hb dL_law_1928 rfl (lv_at hl 0 rfl) ?_
      refine lv_iload hx hb dL_law_1929 (lv_at hl 2 rfl) ?_
      refine lv_iconst (v := 0) hx hb dL_law_1931 (by decide) ?_
      obtain ⟨t3, et3, hrun⟩ := bd_inv hrun
      obtain ⟨σ4, eσ4, hrun⟩ := lt_inv hrun
      obtain ⟨fs9, he9⟩ := XW_head hXW
      refine lw_callVi (wr := [(h_bb, .inl (k_cI G, 21, .inl w_bb)), (h_m, .inl (k_cI G, 7, .inl w_m)), (h_v, .inl (k_cI G, 4, .inl w_v))]) (rest := []) C0 (lx_stack hXW et3 H.size) (cwV 2 hts gL_law_X11_stack rfl rfl rfl e_X11_stack ⟨Nat.le_of_ble_eq_true rfl, Nat.le_of_ble_eq_true rfl⟩) hP hD hS rfl rfl he9 rfl hl.1 rfl (Nat.le_of_ble_eq_true rfl) dL_law_1932 ⟨Nat.le_of_ble_eq_true rfl, Nat.le_of_ble_eq_true rfl⟩ (fun w5 H locs hXW hP hD hS => ?_)
      replace hXW : XW G h_o σ4 w5 := by rw [eσ4]; exact hXW
      clear et3 eσ4 he9
      refine lv_aload_n hx hb dL_law_1935 rfl (lv_at hl 1 rfl) ?_
      refine lv_iconst (v := 5) hx hb dL_law_1936 (by decide) ?_
      refine lv_iconst (v := 2) hx hb dL_law_1937 (by decide) ?_
      refine lv_iload hx hb dL_law_1938 (lv_at hl 2 rfl) ?_
      refine lv_imul hx hb dL_law_1940 ?_
      refine lv_iadd hx hb dL_law_1941 ?_
      obtain ⟨gz6, hrun⟩ := gd_inv hrun
      refine va_iald hx hb hK hP 0 1 rfl rfl gz6 dL_law_1942 ?_
      refine lv_icmp_ne (tgt := 1965) hx hb dL_law_1943 (by decide) (fun q7 => ?_) (fun q7 => ?_)
      · replace hrun := if_f q7 hrun
        refine lv_iconst (v := 0) hx hb dL_law_1965 (by decide) ?_
        exact absurd (Option.some.inj hrun) (by decide)
      · replace hrun := if_t q7 hrun
        refine lv_aload_n hx hb dL_law_1946 rfl (lv_at hl 0 rfl) ?_
        refine lv_iload hx hb dL_law_1947 (lv_at hl 2 rfl) ?_
        refine lv_iconst (v := 1) hx hb dL_law_1949 (by decide) ?_
        obtain ⟨t8, et8, hrun⟩ := bd_inv hrun
        obtain ⟨σ9, eσ9, hrun⟩ := lt_inv hrun
        obtain ⟨fs9, he9⟩ := XW_head hXW
        refine lw_callVi (wr := [(h_bb, .inl (k_cI G, 21, .inl w_bb)), (h_m, .inl (k_cI G, 7, .inl w_m)), (h_v, .inl (k_cI G, 4, .inl w_v))]) (rest := []) C0 (lx_stack hXW et8 H.size) (cwV 2 hts gL_law_X11_stack rfl rfl rfl e_X11_stack ⟨Nat.le_of_ble_eq_true rfl, Nat.le_of_ble_eq_true rfl⟩) hP hD hS rfl rfl he9 rfl hl.1 rfl (Nat.le_of_ble_eq_true rfl) dL_law_1950 ⟨Nat.le_of_ble_eq_true rfl, Nat.le_of_ble_eq_true rfl⟩ (fun w10 H locs hXW hP hD hS => ?_)
        replace hXW : XW G h_o σ9 w10 := by rw [eσ9]; exact hXW
        clear et8 eσ9 he9
        refine lv_aload_n hx hb dL_law_1953 rfl (lv_at hl 1 rfl) ?_
        refine lv_bipush (v := 6) hx hb dL_law_1954 (by decide) ?_
        refine lv_iconst (v := 2) hx hb dL_law_1956 (by decide) ?_
        refine lv_iload hx hb dL_law_1957 (lv_at hl 2 rfl) ?_
        refine lv_imul hx hb dL_law_1959 ?_
        refine lv_iadd hx hb dL_law_1960 ?_
        obtain ⟨gz11, hrun⟩ := gd_inv hrun
        refine va_iald hx hb hK hP 0 1 rfl rfl gz11 dL_law_1961 ?_
        refine lv_icmp_eq (tgt := 1967) hx hb dL_law_1962 (by decide) (fun q12 => ?_) (fun q12 => ?_)
        · replace hrun := if_t q12 hrun
          refine lv_iinc (v := x5 + 1) (lv' := [(5, .int (x5 + 1)), (1, .ref h_o), (3, .ref h_bb)]) hx hb dL_law_1967 hl (k := 2) rfl rfl (by decide) rfl (fun ls hl => ?_)
          refine lv_goto (tgt := 1920) hx hb dL_law_1970 (by decide) ?_
          exact ih w10 (x5 + 1) w_bb w_m w_v σ9 _ _ _ hXW hP hD hS (lv_sub hl [1, 2, 0] rfl) hrun
        · replace hrun := if_f q12 hrun
          refine lv_iconst (v := 0) hx hb dL_law_1965 (by decide) ?_
          exact absurd (Option.some.inj hrun) (by decide)
set_option maxHeartbeats 4000000 in
set_option maxRecDepth 100000 in
theorem t_L_law_286 {l : Launch} {G : k_G} {p : Program} {e : Env} {s : State} {m : MethodId} {b : Nat} {below : List Frame} {meth : Method} {c : Code} {A : Nat → Prop} {h_bb h_m h_v h_o : Nat} (C0 : k_C G p s m #[Value.ref b] meth c A code RL lw_tbl 21 (some .boolean) meth.name) (hAs : ∀ q, A q → s.heap.size ≤ q) : ∀ (n : Nat) (w : va_W) (x5 : Int32) (w_bb : Nat → Int32) (w_m : Nat → Int32) (w_v : Nat → Int32) (σ : k_SB) (H : Heap) (locs : List Loc) (ls : Array Slot), XW G h_o σ w → va_P G.1 vwCl ([(h_bb, .inl (k_cI G, 21, .inl w_bb)), (h_m, .inl (k_cI G, 7, .inl w_m)), (h_v, .inl (k_cI G, 4, .inl w_v))] ++ w) H → va_D A ([(h_bb, .inl (k_cI G, 21, .inl w_bb)), (h_m, .inl (k_cI G, 7, .inl w_m)), (h_v, .inl (k_cI G, 4, .inl w_v))] ++ w) → va_S A s.heap H locs → lv_has ls 21 [(0, .ref (k_xB G)), (1, .ref h_o), (3, .ref h_bb), (4, .ref h_v), (5, .int x5)] → f_L_law_286 (k_xL G) (k_xs G) n x5 w_bb w_m w_v σ = some (1 : Int32) → W p l e room_1 s m #[Value.ref b] below meth c H locs 44 13141 (lw_Z below #[Value.ref b] s) (F0 m 286 ls []) := by
  have hx := C0.1
  have hb := C0.2.1
  have hts := C0.2.2.2.1
  have hown := C0.2.2.2.2.1
  have hK := C0.2.2.2.2.2.2.2.2.1.1
  have hNW := C0.2.2.2.2.2.2.2.2.1.2.1
  have hSF := C0.2.2.2.2.2.2.2.2.1.2.2
  intro n
  induction n with
  | zero =>
    intro w x5 w_bb w_m w_v σ H locs ls hXW hP hD hS hl hrun
    rw [f_L_law_286] at hrun
    cases hrun
  | succ n ih =>
    intro w x5 w_bb w_m w_v σ H locs ls hXW hP hD hS hl hrun
    rw [f_L_law_286] at hrun
    refine lv_iload hx hb dL_law_286 (lv_at hl 4 rfl) ?_
    refine lv_iconst (v := 4) hx hb dL_law_288 (by decide) ?_
    refine lv_icmp_ge (tgt := 1891) hx hb dL_law_289 (by decide) (fun q1 => ?_) (fun q1 => ?_)
    · replace hrun := if_t q1 hrun
      refine lv_aload_n hx hb dL_law_1891 rfl (lv_at hl 1 rfl) ?_
      refine lv_iconst (v := 0) hx hb dL_law_1892 (by decide) ?_
      obtain ⟨t2, et2, hrun⟩ := bd_inv hrun
      obtain ⟨σ3, eσ3, hrun⟩ := lt_inv hrun
      obtain ⟨fs9, he9⟩ := XW_head hXW
      refine lw_callVi (wr := [(h_bb, .inl (k_cI G, 21, .inl w_bb)), (h_m, .inl (k_cI G, 7, .inl w_m)), (h_v, .inl (k_cI G, 4, .inl w_v))]) (rest := []) C0 (lx_back hXW et2 H.size) (cwV 1 hts gL_law_X11_back rfl rfl rfl e_X11_back ⟨Nat.le_of_ble_eq_true rfl, Nat.le_of_ble_eq_true rfl⟩) hP hD hS rfl rfl he9 rfl hl.1 rfl (Nat.le_of_ble_eq_true rfl) dL_law_1893 ⟨Nat.le_of_ble_eq_true rfl, Nat.le_of_ble_eq_true rfl⟩ (fun w4 H locs hXW hP hD hS => ?_)
      replace hXW : XW G h_o σ3 w4 := by rw [eσ3]; exact hXW
      clear et2 eσ3 he9
      refine lv_if_eq (tgt := 1915) hx hb dL_law_1896 (by decide) (fun q5 => ?_) (fun q5 => ?_)
      · replace hrun := if_t q5 hrun
        refine lv_iconst (v := 0) hx hb dL_law_1915 (by decide) ?_
        exact absurd (Option.some.inj hrun) (by decide)
      · replace hrun := if_f q5 hrun
        refine lv_aload_n hx hb dL_law_1899 rfl (lv_at hl 1 rfl) ?_
        obtain ⟨t6, et6, hrun⟩ := bd_inv hrun
        obtain ⟨σ7, eσ7, hrun⟩ := lt_inv hrun
        obtain ⟨fs9, he9⟩ := XW_head hXW
        refine lw_callVi (wr := [(h_bb, .inl (k_cI G, 21, .inl w_bb)), (h_m, .inl (k_cI G, 7, .inl w_m)), (h_v, .inl (k_cI G, 4, .inl w_v))]) (rest := []) C0 (lx_undo hXW et6 H.size) (cwV 0 hts gL_law_X11_undo rfl rfl rfl e_X11_undo ⟨Nat.le_of_ble_eq_true rfl, Nat.le_of_ble_eq_true rfl⟩) hP hD hS rfl rfl he9 rfl hl.1 rfl (Nat.le_of_ble_eq_true rfl) dL_law_1900 ⟨Nat.le_of_ble_eq_true rfl, Nat.le_of_ble_eq_true rfl⟩ (fun w8 H locs hXW hP hD hS => ?_)
        replace hXW : XW G h_o σ7 w8 := by rw [eσ7]; exact hXW
        clear et6 eσ7 he9
        refine lv_if_ne (tgt := 1915) hx hb dL_law_1903 (by decide) (fun q9 => ?_) (fun q9 => ?_)
        · replace hrun := if_f q9 hrun
          refine lv_iconst (v := 0) hx hb dL_law_1915 (by decide) ?_
          exact absurd (Option.some.inj hrun) (by decide)
        · replace hrun := if_t q9 hrun
          refine lv_aload_n hx hb dL_law_1906 rfl (lv_at hl 1 rfl) ?_
          refine lv_bipush (v := 7) hx hb dL_law_1907 (by decide) ?_
          obtain ⟨t10, et10, hrun⟩ := bd_inv hrun
          obtain ⟨σ11, eσ11, hrun⟩ := lt_inv hrun
          obtain ⟨fs9, he9⟩ := XW_head hXW
          refine lw_callVi (wr := [(h_bb, .inl (k_cI G, 21, .inl w_bb)), (h_m, .inl (k_cI G, 7, .inl w_m)), (h_v, .inl (k_cI G, 4, .inl w_v))]) (rest := []) C0 (lx_size hXW et10 H.size) (cwV 1 hts gL_law_X11_size rfl rfl rfl e_X11_size ⟨Nat.le_of_ble_eq_true rfl, Nat.le_of_ble_eq_true rfl⟩) hP hD hS rfl rfl he9 rfl hl.1 rfl (Nat.le_of_ble_eq_true rfl) dL_law_1909 ⟨Nat.le_of_ble_eq_true rfl, Nat.le_of_ble_eq_true rfl⟩ (fun w12 H locs hXW hP hD hS => ?_)
          replace hXW : XW G h_o σ11 w12 := by rw [eσ11]; exact hXW
          clear et10 eσ11 he9
          refine lv_if_eq (tgt := 1917) hx hb dL_law_1912 (by decide) (fun q13 => ?_) (fun q13 => ?_)
          · replace hrun := if_t q13 hrun
            refine lv_iconst (v := 0) hx hb dL_law_1917 (by decide) ?_
            refine lv_istore (lv' := [(5, .int (0 : Int32)), (0, .ref (k_xB G)), (1, .ref h_o), (3, .ref h_bb), (4, .ref h_v)]) hx hb dL_law_1918 hl (by decide) rfl (fun ls hl => ?_)
            exact t_L_law_1920 C0 hAs kFU w12 (0 : Int32) w_bb w_m w_v σ11 _ _ _ hXW hP hD hS (lv_sub hl [2, 3, 0] rfl) hrun
          · replace hrun := if_f q13 hrun
            refine lv_iconst (v := 0) hx hb dL_law_1915 (by decide) ?_
            exact absurd (Option.some.inj hrun) (by decide)
    · replace hrun := if_f q1 hrun
      refine lv_aload_n hx hb dL_law_292 rfl (lv_at hl 0 rfl) ?_
      refine lv_iconst (v := 3) hx hb dL_law_293 (by decide) ?_
      refine lv_iload hx hb dL_law_294 (lv_at hl 4 rfl) ?_
      refine lv_iadd hx hb dL_law_296 ?_
      obtain ⟨t14, et14, hrun⟩ := bd_inv hrun
      refine k_calli0 C0 (k_runS (rest := []) C0 (c_L_cell et14) (va_cwS 2 hts gL_law_L_cell rfl rfl rfl e_L_cell.2 ⟨Nat.le_of_ble_eq_true rfl, Nat.le_of_ble_eq_true rfl⟩) hP hD hS [] rfl (by decide) rfl hl.1 rfl (Nat.le_of_ble_eq_true rfl) dL_law_297 ⟨Nat.le_of_ble_eq_true rfl, Nat.le_of_ble_eq_true rfl⟩) hP hS (fun H locs hP hS => ?_)
      clear et14
      refine lv_istore (lv' := [(6, .int t14), (0, .ref (k_xB G)), (1, .ref h_o), (3, .ref h_bb), (4, .ref h_v), (5, .int x5)]) hx hb dL_law_300 hl (by decide) rfl (fun ls hl => ?_)
      refine lv_iconst (v := 0) hx hb dL_law_302 (by decide) ?_
      refine lv_istore (lv' := [(7, .int (0 : Int32)), (6, .int t14), (0, .ref (k_xB G)), (1, .ref h_o), (3, .ref h_bb), (4, .ref h_v), (5, .int x5)]) hx hb dL_law_303 hl (by decide) rfl (fun ls hl => ?_)
      exact t_L_law_305 C0 hAs (fun x5 w_bb w_m w_v σ => f_L_law_286 (k_xL G) (k_xs G) n x5 w_bb w_m w_v σ) ih kFU w x5 t14 (0 : Int32) w_bb w_m w_v σ _ _ _ hXW hP hD hS (lv_sub hl [2, 3, 4, 5, 6, 1, 0] rfl) hrun
set_option maxHeartbeats 4000000 in
set_option maxRecDepth 100000 in
theorem t_L_law_48 {l : Launch} {G : k_G} {p : Program} {e : Env} {s : State} {m : MethodId} {b : Nat} {below : List Frame} {meth : Method} {c : Code} {A : Nat → Prop} {h_bb h_m h_v h_o : Nat} (C0 : k_C G p s m #[Value.ref b] meth c A code RL lw_tbl 21 (some .boolean) meth.name) (hAs : ∀ q, A q → s.heap.size ≤ q) : ∀ (n : Nat) (w : va_W) (x5 : Int32) (w_bb : Nat → Int32) (w_m : Nat → Int32) (w_v : Nat → Int32) (σ : k_SB) (H : Heap) (locs : List Loc) (ls : Array Slot), XW G h_o σ w → va_P G.1 vwCl ([(h_bb, .inl (k_cI G, 21, .inl w_bb)), (h_m, .inl (k_cI G, 7, .inl w_m)), (h_v, .inl (k_cI G, 4, .inl w_v))] ++ w) H → va_D A ([(h_bb, .inl (k_cI G, 21, .inl w_bb)), (h_m, .inl (k_cI G, 7, .inl w_m)), (h_v, .inl (k_cI G, 4, .inl w_v))] ++ w) → va_S A s.heap H locs → lv_has ls 21 [(0, .ref (k_xB G)), (1, .ref h_o), (3, .ref h_bb), (4, .ref h_v), (5, .int x5)] → f_L_law_48 (k_xL G) (k_xs G) n x5 w_bb w_m w_v σ = some (1 : Int32) → W p l e room_1 s m #[Value.ref b] below meth c H locs 44 13141 (lw_Z below #[Value.ref b] s) (F0 m 48 ls []) := by
  have hx := C0.1
  have hb := C0.2.1
  have hts := C0.2.2.2.1
  have hown := C0.2.2.2.2.1
  have hK := C0.2.2.2.2.2.2.2.2.1.1
  have hNW := C0.2.2.2.2.2.2.2.2.1.2.1
  have hSF := C0.2.2.2.2.2.2.2.2.1.2.2
  intro n
  induction n with
  | zero =>
    intro w x5 w_bb w_m w_v σ H locs ls hXW hP hD hS hl hrun
    rw [f_L_law_48] at hrun
    cases hrun
  | succ n ih =>
    intro w x5 w_bb w_m w_v σ H locs ls hXW hP hD hS hl hrun
    rw [f_L_law_48] at hrun
    refine lv_iload hx hb dL_law_48 (lv_at hl 4 rfl) ?_
    refine lv_bipush (v := 7) hx hb dL_law_50 (by decide) ?_
    refine lv_icmp_ge (tgt := 283) hx hb dL_law_52 (by decide) (fun q1 => ?_) (fun q1 => ?_)
    · replace hrun := if_t q1 hrun
      refine lv_iconst (v := 0) hx hb dL_law_283 (by decide) ?_
      refine lv_istore (lv' := [(5, .int (0 : Int32)), (0, .ref (k_xB G)), (1, .ref h_o), (3, .ref h_bb), (4, .ref h_v)]) hx hb dL_law_284 hl (by decide) rfl (fun ls hl => ?_)
      exact t_L_law_286 C0 hAs kFU w (0 : Int32) w_bb w_m w_v σ _ _ _ hXW hP hD hS (lv_sub hl [1, 2, 3, 4, 0] rfl) hrun
    · replace hrun := if_f q1 hrun
      refine lv_aload_n hx hb dL_law_55 rfl (lv_at hl 1 rfl) ?_
      refine lv_iload hx hb dL_law_56 (lv_at hl 4 rfl) ?_
      obtain ⟨t2, et2, hrun⟩ := bd_inv hrun
      obtain ⟨σ3, eσ3, hrun⟩ := lt_inv hrun
      obtain ⟨fs9, he9⟩ := XW_head hXW
      refine lw_callVi (wr := [(h_bb, .inl (k_cI G, 21, .inl w_bb)), (h_m, .inl (k_cI G, 7, .inl w_m)), (h_v, .inl (k_cI G, 4, .inl w_v))]) (rest := []) C0 (lx_groundMany hXW et2 H.size) (cwV 1 hts gL_law_X11_groundMany rfl rfl rfl e_X11_groundMany ⟨Nat.le_of_ble_eq_true rfl, Nat.le_of_ble_eq_true rfl⟩) hP hD hS rfl rfl he9 rfl hl.1 rfl (Nat.le_of_ble_eq_true rfl) dL_law_58 ⟨Nat.le_of_ble_eq_true rfl, Nat.le_of_ble_eq_true rfl⟩ (fun w4 H locs hXW hP hD hS => ?_)
      replace hXW : XW G h_o σ3 w4 := by rw [eσ3]; exact hXW
      clear et2 eσ3 he9
      refine lv_istore (lv' := [(6, .int t2.1), (0, .ref (k_xB G)), (1, .ref h_o), (3, .ref h_bb), (4, .ref h_v), (5, .int x5)]) hx hb dL_law_61 hl (by decide) rfl (fun ls hl => ?_)
      refine lv_iload hx hb dL_law_63 (lv_at hl 0 rfl) ?_
      refine lv_iconst (v := 2) hx hb dL_law_65 (by decide) ?_
      refine lv_icmp_lt (tgt := 112) hx hb dL_law_66 (by decide) (fun q5 => ?_) (fun q5 => ?_)
      · replace hrun := if_t q5 hrun
        refine lv_iconst (v := 0) hx hb dL_law_112 (by decide) ?_
        exact absurd (Option.some.inj hrun) (by decide)
      · replace hrun := if_f q5 hrun
        refine lv_iload hx hb dL_law_69 (lv_at hl 0 rfl) ?_
        refine lv_iconst (v := 1) hx hb dL_law_71 (by decide) ?_
        refine lv_iload hx hb dL_law_72 (lv_at hl 5 rfl) ?_
        refine lv_ishl hx hb dL_law_74 ?_
        refine lv_icmp_gt (tgt := 112) hx hb dL_law_75 (by decide) (fun q6 => ?_) (fun q6 => ?_)
        · replace hrun := if_t q6 hrun
          refine lv_iconst (v := 0) hx hb dL_law_112 (by decide) ?_
          exact absurd (Option.some.inj hrun) (by decide)
        · replace hrun := if_f q6 hrun
          refine lv_aload_n hx hb dL_law_78 rfl (lv_at hl 2 rfl) ?_
          refine lv_iload hx hb dL_law_79 (lv_at hl 5 rfl) ?_
          obtain ⟨t7, et7, hrun⟩ := bd_inv hrun
          obtain ⟨σ8, eσ8, hrun⟩ := lt_inv hrun
          obtain ⟨fs9, he9⟩ := XW_head hXW
          refine lw_callVi (wr := [(h_bb, .inl (k_cI G, 21, .inl w_bb)), (h_m, .inl (k_cI G, 7, .inl w_m)), (h_v, .inl (k_cI G, 4, .inl w_v))]) (rest := []) C0 (lx_groundRow hXW et7 H.size) (cwV 1 hts gL_law_X11_groundRow rfl rfl rfl e_X11_groundRow ⟨Nat.le_of_ble_eq_true rfl, Nat.le_of_ble_eq_true rfl⟩) hP hD hS rfl rfl he9 rfl hl.1 rfl (Nat.le_of_ble_eq_true rfl) dL_law_81 ⟨Nat.le_of_ble_eq_true rfl, Nat.le_of_ble_eq_true rfl⟩ (fun w9 H locs hXW hP hD hS => ?_)
          replace hXW : XW G h_o σ8 w9 := by rw [eσ8]; exact hXW
          clear et7 eσ8 he9
          refine lv_iconst (v := 1) hx hb dL_law_84 (by decide) ?_
          refine lv_iload hx hb dL_law_85 (lv_at hl 5 rfl) ?_
          refine lv_ishl hx hb dL_law_87 ?_
          refine lv_icmp_ge (tgt := 112) hx hb dL_law_88 (by decide) (fun q10 => ?_) (fun q10 => ?_)
          · replace hrun := if_t q10 hrun
            refine lv_iconst (v := 0) hx hb dL_law_112 (by decide) ?_
            exact absurd (Option.some.inj hrun) (by decide)
          · replace hrun := if_f q10 hrun
            refine lv_aload_n hx hb dL_law_91 rfl (lv_at hl 3 rfl) ?_
            refine lv_iload hx hb dL_law_92 (lv_at hl 5 rfl) ?_
            refine lv_aload_n hx hb dL_law_94 rfl (lv_at hl 2 rfl) ?_
            refine lv_iload hx hb dL_law_95 (lv_at hl 5 rfl) ?_
            obtain ⟨t11, et11, hrun⟩ := bd_inv hrun
            obtain ⟨σ12, eσ12, hrun⟩ := lt_inv hrun
            obtain ⟨fs9, he9⟩ := XW_head hXW
            refine lw_callVi (wr := [(h_bb, .inl (k_cI G, 21, .inl w_bb)), (h_m, .inl (k_cI G, 7, .inl w_m)), (h_v, .inl (k_cI G, 4, .inl w_v))]) (rest := [.int x5, .ref h_bb]) C0 (lx_groundRow hXW et11 H.size) (cwV 1 hts gL_law_X11_groundRow rfl rfl rfl e_X11_groundRow ⟨Nat.le_of_ble_eq_true rfl, Nat.le_of_ble_eq_true rfl⟩) hP hD hS rfl rfl he9 rfl hl.1 rfl (Nat.le_of_ble_eq_true rfl) dL_law_97 ⟨Nat.le_of_ble_eq_true rfl, Nat.le_of_ble_eq_true rfl⟩ (fun w13 H locs hXW hP hD hS => ?_)
            replace hXW : XW G h_o σ12 w13 := by rw [eσ12]; exact hXW
            clear et11 eσ12 he9
            obtain ⟨t14, et14, hrun⟩ := bd_inv hrun
            have hpm : List.Perm ([(h_bb, .inl (k_cI G, 21, .inl w_bb)), (h_m, .inl (k_cI G, 7, .inl w_m)), (h_v, .inl (k_cI G, 4, .inl w_v))] ++ w13) (([(h_m, .inl (k_cI G, 7, .inl w_m)), (h_v, .inl (k_cI G, 4, .inl w_v))] ++ w13) ++ [(h_bb, .inl (k_cI G, 21, .inl w_bb))]) := (List.Perm.trans (List.Perm.trans (List.Perm.swap _ _ _) (List.Perm.cons _ (List.Perm.swap _ _ _))) (List.Perm.cons _ (List.Perm.cons _ (k_psn _ _))))
            refine lw_callSi (wr := ([(h_m, .inl (k_cI G, 7, .inl w_m)), (h_v, .inl (k_cI G, 4, .inl w_v))] ++ w13)) (wc := [(h_bb, .inl (k_cI G, 21, .inl w_bb))]) (rest := []) C0 (cd_L_energy et14 H.size) (va_cwS 3 hts gL_law_L_energy rfl rfl rfl e_L_energy.2 ⟨Nat.le_of_ble_eq_true rfl, Nat.le_of_ble_eq_true rfl⟩) (k_permP hP hpm) (k_permD hD hpm) hS rfl hl.1 rfl (Nat.le_of_ble_eq_true rfl) dL_law_100 ⟨Nat.le_of_ble_eq_true rfl, Nat.le_of_ble_eq_true rfl⟩ (fun u9 H locs hu9 hP hD hS => ?_)
            obtain rfl := hu9
            replace hP : va_P G.1 vwCl ([(h_bb, .inl (k_cI G, 21, .inl w_bb)), (h_m, .inl (k_cI G, 7, .inl w_m)), (h_v, .inl (k_cI G, 4, .inl w_v))] ++ w13) H := k_permP hP hpm.symm
            replace hD : va_D A ([(h_bb, .inl (k_cI G, 21, .inl w_bb)), (h_m, .inl (k_cI G, 7, .inl w_m)), (h_v, .inl (k_cI G, 4, .inl w_v))] ++ w13) := k_permD hD hpm.symm
            clear hpm et14
            refine lv_aload_n hx hb dL_law_103 rfl (lv_at hl 2 rfl) ?_
            refine lv_iload hx hb dL_law_104 (lv_at hl 5 rfl) ?_
            obtain ⟨t16, et16, hrun⟩ := bd_inv hrun
            obtain ⟨σ17, eσ17, hrun⟩ := lt_inv hrun
            obtain ⟨fs9, he9⟩ := XW_head hXW
            refine lw_callVi (wr := [(h_bb, .inl (k_cI G, 21, .inl w_bb)), (h_m, .inl (k_cI G, 7, .inl w_m)), (h_v, .inl (k_cI G, 4, .inl w_v))]) (rest := [.int t14]) C0 (lx_ground hXW et16 H.size) (cwV 1 hts gL_law_X11_ground rfl rfl rfl e_X11_ground ⟨Nat.le_of_ble_eq_true rfl, Nat.le_of_ble_eq_true rfl⟩) hP hD hS rfl rfl he9 rfl hl.1 rfl (Nat.le_of_ble_eq_true rfl) dL_law_106 ⟨Nat.le_of_ble_eq_true rfl, Nat.le_of_ble_eq_true rfl⟩ (fun w18 H locs hXW hP hD hS => ?_)
            replace hXW : XW G h_o σ17 w18 := by rw [eσ17]; exact hXW
            clear et16 eσ17 he9
            refine lv_icmp_eq (tgt := 114) hx hb dL_law_109 (by decide) (fun q19 => ?_) (fun q19 => ?_)
            · replace hrun := if_t q19 hrun
              refine lv_sipush (v := 9999) hx hb dL_law_114 (by decide) ?_
              refine lv_istore (lv' := [(7, .int (9999 : Int32)), (6, .int t2.1), (0, .ref (k_xB G)), (1, .ref h_o), (3, .ref h_bb), (4, .ref h_v), (5, .int x5)]) hx hb dL_law_117 hl (by decide) rfl (fun ls hl => ?_)
              refine lv_iconst (v := 0) hx hb dL_law_119 (by decide) ?_
              refine lv_istore (lv' := [(8, .int (0 : Int32)), (7, .int (9999 : Int32)), (6, .int t2.1), (0, .ref (k_xB G)), (1, .ref h_o), (3, .ref h_bb), (4, .ref h_v), (5, .int x5)]) hx hb dL_law_120 hl (by decide) rfl (fun ls hl => ?_)
              exact t_L_law_122 C0 hAs (fun x5 w_bb w_m w_v σ => f_L_law_48 (k_xL G) (k_xs G) n x5 w_bb w_m w_v σ) ih kFU w18 x5 (9999 : Int32) (0 : Int32) w_bb w_m w_v σ17 _ _ _ hXW hP hD hS (lv_sub hl [3, 4, 5, 6, 7, 1, 0] rfl) hrun
            · replace hrun := if_f q19 hrun
              refine lv_iconst (v := 0) hx hb dL_law_112 (by decide) ?_
              exact absurd (Option.some.inj hrun) (by decide)
set_option maxHeartbeats 4000000 in
set_option maxRecDepth 100000 in
theorem t_L_law_23 {l : Launch} {G : k_G} {p : Program} {e : Env} {s : State} {m : MethodId} {b : Nat} {below : List Frame} {meth : Method} {c : Code} {A : Nat → Prop} {h_bb h_m h_v h_o : Nat} (C0 : k_C G p s m #[Value.ref b] meth c A code RL lw_tbl 21 (some .boolean) meth.name) (hAs : ∀ q, A q → s.heap.size ≤ q) : ∀ (w : va_W) (w_bb : Nat → Int32) (w_m : Nat → Int32) (w_v : Nat → Int32) (σ : k_SB) (H : Heap) (locs : List Loc) (ls : Array Slot), XW G h_o σ w → va_P G.1 vwCl ([(h_bb, .inl (k_cI G, 21, .inl w_bb)), (h_m, .inl (k_cI G, 7, .inl w_m)), (h_v, .inl (k_cI G, 4, .inl w_v))] ++ w) H → va_D A ([(h_bb, .inl (k_cI G, 21, .inl w_bb)), (h_m, .inl (k_cI G, 7, .inl w_m)), (h_v, .inl (k_cI G, 4, .inl w_v))] ++ w) → va_S A s.heap H locs → lv_has ls 21 [(0, .ref (k_xB G)), (1, .ref h_o), (2, .ref h_m), (3, .ref h_bb), (4, .ref h_v)] → f_L_law_23 (k_xL G) (k_xs G) w_bb w_m w_v σ = some (1 : Int32) → W p l e room_1 s m #[Value.ref b] below meth c H locs 44 13141 (lw_Z below #[Value.ref b] s) (F0 m 23 ls []) := by
  have hx := C0.1
  have hb := C0.2.1
  have hts := C0.2.2.2.1
  have hown := C0.2.2.2.2.1
  have hK := C0.2.2.2.2.2.2.2.2.1.1
  have hNW := C0.2.2.2.2.2.2.2.2.1.2.1
  have hSF := C0.2.2.2.2.2.2.2.2.1.2.2
  intro w w_bb w_m w_v σ H locs ls hXW hP hD hS hl hrun
  rw [f_L_law_23] at hrun
  refine lv_aload_n hx hb dL_law_23 rfl (lv_at hl 1 rfl) ?_
  refine lv_aload_n hx hb dL_law_24 rfl (lv_at hl 2 rfl) ?_
  refine lv_aload_n hx hb dL_law_25 rfl (lv_at hl 0 rfl) ?_
  refine lv_iconst (v := 0) hx hb dL_law_26 (by decide) ?_
  refine lv_aload_n hx hb dL_law_27 rfl (lv_at hl 3 rfl) ?_
  refine lv_aload hx hb dL_law_28 (lv_at hl 4 rfl) ?_
  obtain ⟨t1, et1, hrun⟩ := bd_inv hrun
  have hpm : List.Perm ([(h_bb, .inl (k_cI G, 21, .inl w_bb)), (h_m, .inl (k_cI G, 7, .inl w_m)), (h_v, .inl (k_cI G, 4, .inl w_v))] ++ w) ([] ++ ([(h_m, .inl (k_cI G, 7, .inl w_m)), (h_bb, .inl (k_cI G, 21, .inl w_bb)), (h_v, .inl (k_cI G, 4, .inl w_v))] ++ w)) := (List.Perm.swap _ _ _)
  have hP9 := k_permP hP hpm
  have hD9 := k_permD hD hpm
  refine lw_callSi (wr := []) (wc := ([(h_m, .inl (k_cI G, 7, .inl w_m)), (h_bb, .inl (k_cI G, 21, .inl w_bb)), (h_v, .inl (k_cI G, 4, .inl w_v))] ++ w)) (rest := []) C0 (c_L_told hXW et1 H.size) (va_cwS 6 hts gL_law_L_told rfl rfl rfl e_L_told.2 ⟨Nat.le_of_ble_eq_true rfl, Nat.le_of_ble_eq_true rfl⟩) hP9 hD9 hS rfl hl.1 rfl (Nat.le_of_ble_eq_true rfl) dL_law_30 ⟨Nat.le_of_ble_eq_true rfl, Nat.le_of_ble_eq_true rfl⟩ (fun u9 H locs hu9 hP hD hS => ?_)
  obtain ⟨w2, rfl, hXW⟩ := hu9
  clear hpm hP9 hD9
  have hpm : List.Perm ([] ++ ([(h_m, .inl (k_cI G, 7, .inl t1.2.1)), (h_bb, .inl (k_cI G, 21, .inl t1.2.2.1)), (h_v, .inl (k_cI G, 4, .inl t1.2.2.2.1))] ++ w2)) ([(h_bb, .inl (k_cI G, 21, .inl t1.2.2.1)), (h_m, .inl (k_cI G, 7, .inl t1.2.1)), (h_v, .inl (k_cI G, 4, .inl t1.2.2.2.1))] ++ w2) := (List.Perm.swap _ _ _)
  have hP : va_P G.1 vwCl ([(h_bb, .inl (k_cI G, 21, .inl t1.2.2.1)), (h_m, .inl (k_cI G, 7, .inl t1.2.1)), (h_v, .inl (k_cI G, 4, .inl t1.2.2.2.1))] ++ w2) H := k_permP hP hpm
  have hD : va_D A ([(h_bb, .inl (k_cI G, 21, .inl t1.2.2.1)), (h_m, .inl (k_cI G, 7, .inl t1.2.1)), (h_v, .inl (k_cI G, 4, .inl t1.2.2.2.1))] ++ w2) := k_permD hD hpm
  clear hpm
  clear et1
  refine lv_if_eq (tgt := 43) hx hb dL_law_33 (by decide) (fun q3 => ?_) (fun q3 => ?_)
  · replace hrun := if_t q3 hrun
    refine lv_iconst (v := 0) hx hb dL_law_43 (by decide) ?_
    exact absurd (Option.some.inj hrun) (by decide)
  · replace hrun := if_f q3 hrun
    refine lv_aload_n hx hb dL_law_36 rfl (lv_at hl 1 rfl) ?_
    obtain ⟨t4, et4, hrun⟩ := bd_inv hrun
    obtain ⟨σ5, eσ5, hrun⟩ := lt_inv hrun
    obtain ⟨fs9, he9⟩ := XW_head hXW
    refine lw_callVi (wr := [(h_bb, .inl (k_cI G, 21, .inl t1.2.2.1)), (h_m, .inl (k_cI G, 7, .inl t1.2.1)), (h_v, .inl (k_cI G, 4, .inl t1.2.2.2.1))]) (rest := []) C0 (lx_image hXW et4 H.size) (cwV 0 hts gL_law_X11_image rfl rfl rfl e_X11_image ⟨Nat.le_of_ble_eq_true rfl, Nat.le_of_ble_eq_true rfl⟩) hP hD hS rfl rfl he9 rfl hl.1 rfl (Nat.le_of_ble_eq_true rfl) dL_law_37 ⟨Nat.le_of_ble_eq_true rfl, Nat.le_of_ble_eq_true rfl⟩ (fun w6 H locs hXW hP hD hS => ?_)
    replace hXW : XW G h_o σ5 w6 := by rw [eσ5]; exact hXW
    clear et4 eσ5 he9
    refine lv_if_eq (tgt := 45) hx hb dL_law_40 (by decide) (fun q7 => ?_) (fun q7 => ?_)
    · replace hrun := if_t q7 hrun
      refine lv_iconst (v := 2) hx hb dL_law_45 (by decide) ?_
      refine lv_istore (lv' := [(5, .int (2 : Int32)), (0, .ref (k_xB G)), (1, .ref h_o), (2, .ref h_m), (3, .ref h_bb), (4, .ref h_v)]) hx hb dL_law_46 hl (by decide) rfl (fun ls hl => ?_)
      exact t_L_law_48 C0 hAs kFU w6 (2 : Int32) t1.2.2.1 t1.2.1 t1.2.2.2.1 σ5 _ _ _ hXW hP hD hS (lv_sub hl [1, 2, 4, 5, 0] rfl) hrun
    · replace hrun := if_f q7 hrun
      refine lv_iconst (v := 0) hx hb dL_law_43 (by decide) ?_
      exact absurd (Option.some.inj hrun) (by decide)
