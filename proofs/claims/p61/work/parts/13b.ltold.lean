def f_L_rest_70 : Nat → Int32 → (Nat → Int32) → (Nat → Int32) → k_SB → Option (Int32 × (Nat → Int32) × k_SB)
  | 0, _, _, _, _ => none
  | n + 1, x3, w_a1, w_a2, σ =>
    gd (inR (14 : Int32) 21) <|
    if (w_a2 (14 : Int32).toNatClampNeg) ≤ x3 then
      (bd (f_L_said w_a1 σ) fun t3 =>
       bd (fx_lab t3.1 t3.2.2) fun t5 =>
       gd (t5.2.2.2.2.2.2.2.2.2.2.2.2.2.2.2.2.2.2.2.2.2.2.2.2.2.2.2.2.2.2.2.2.2.2.2 = 2) <|
       lt (ux_lab2 t3.2.2 t5) fun σ6 =>
       gd (inR (4 : Int32) 21) <|
       if t5.1 = (w_a2 (4 : Int32).toNatClampNeg) then
         some ((1 : Int32), t3.2.1, σ6)
       else
         some ((0 : Int32), t3.2.1, σ6))
    else
      (bd (f_L_say (4278814862003758112 : Int64) w_a1 σ) fun t10 =>
       bd (f_L_say (115 : Int64) t10.1 t10.2) fun t12 =>
       gd (inR ((15 : Int32) + ((3 : Int32) * x3)) 21) <|
       bd (f_L_put ((97 : Int32) + (w_a2 ((15 : Int32) + ((3 : Int32) * x3)).toNatClampNeg)) t12.1 t12.2) fun t15 =>
       bd (f_L_put (32 : Int32) t15.1 t15.2) fun t17 =>
       gd (inR ((16 : Int32) + ((3 : Int32) * x3)) 21) <|
       bd (f_L_number (w_a2 ((16 : Int32) + ((3 : Int32) * x3)).toNatClampNeg) t17.1 t17.2) fun t20 =>
       bd (f_L_put (32 : Int32) t20.1 t20.2) fun t22 =>
       gd (inR ((17 : Int32) + ((3 : Int32) * x3)) 21) <|
       bd (f_L_number (w_a2 ((17 : Int32) + ((3 : Int32) * x3)).toNatClampNeg) t22.1 t22.2) fun t25 =>
       f_L_rest_70 n (x3 + 1) t25.1 w_a2 t25.2)
def f_L_rest_2 : Nat → Int32 → (Nat → Int32) → (Nat → Int32) → k_SB → Option (Int32 × (Nat → Int32) × k_SB)
  | 0, _, _, _, _ => none
  | n + 1, x3, w_a1, w_a2, σ =>
    gd (inR (9 : Int32) 21) <|
    if (w_a2 (9 : Int32).toNatClampNeg) ≤ x3 then
      f_L_rest_70 kFU (0 : Int32) w_a1 w_a2 σ
    else
      (bd (f_L_say (4284452062683620640 : Int64) w_a1 σ) fun t3 =>
       bd (f_L_say (115 : Int64) t3.1 t3.2) fun t5 =>
       gd (inR ((10 : Int32) + ((2 : Int32) * x3)) 21) <|
       bd (f_L_put ((97 : Int32) + (w_a2 ((10 : Int32) + ((2 : Int32) * x3)).toNatClampNeg)) t5.1 t5.2) fun t8 =>
       bd (f_L_put (32 : Int32) t8.1 t8.2) fun t10 =>
       gd (inR ((11 : Int32) + ((2 : Int32) * x3)) 21) <|
       bd (f_L_number (w_a2 ((11 : Int32) + ((2 : Int32) * x3)).toNatClampNeg) t10.1 t10.2) fun t13 =>
       f_L_rest_2 n (x3 + 1) t13.1 w_a2 t13.2)
def f_L_rest (w_a1 : Nat → Int32) (w_a2 : Nat → Int32) (σ : k_SB) : Option (Int32 × (Nat → Int32) × k_SB) :=
  f_L_rest_2 kFU (0 : Int32) w_a1 w_a2 σ
def f_L_told_580 (cL : Nat) (cX : Nat → Int32) (k500 : Int32 → (Nat → Int32) → (Nat → Int32) → (Nat → Int32) → k_SB → Option (Int32 × (Nat → Int32) × (Nat → Int32) × (Nat → Int32) × k_SB)) (k547 : Int32 → Int32 → (Nat → Int32) → (Nat → Int32) → (Nat → Int32) → k_SB → Option (Int32 × (Nat → Int32) × (Nat → Int32) × (Nat → Int32) × k_SB)) (x7 : Int32) (x8 : Int32) (s2 : Int32) (w_a1 : Nat → Int32) (w_a4 : Nat → Int32) (w_a5 : Nat → Int32) (σ : k_SB) : Option (Int32 × (Nat → Int32) × (Nat → Int32) × (Nat → Int32) × k_SB) :=
  bd (f_L_put s2 w_a1 σ) fun t1 =>
  k547 x7 (x8 + (-1)) t1.1 w_a4 w_a5 t1.2
def f_L_told_547 (cL : Nat) (cX : Nat → Int32) (k500 : Int32 → (Nat → Int32) → (Nat → Int32) → (Nat → Int32) → k_SB → Option (Int32 × (Nat → Int32) × (Nat → Int32) × (Nat → Int32) × k_SB)) : Nat → Int32 → Int32 → (Nat → Int32) → (Nat → Int32) → (Nat → Int32) → k_SB → Option (Int32 × (Nat → Int32) × (Nat → Int32) × (Nat → Int32) × k_SB)
  | 0, _, _, _, _, _, _ => none
  | n + 1, x7, x8, w_a1, w_a4, w_a5, σ =>
    if x8 < 0 then
      (k500 (x7 + 1) w_a1 w_a4 w_a5 σ)
    else
      (gd (inR ((6 : Int32) + ((2 : Int32) * x7)) 21) <|
       if (((w_a4 ((6 : Int32) + ((2 : Int32) * x7)).toNatClampNeg) >>> (x8 &&& 31)) &&& (1 : Int32)) = (1 : Int32) then
         f_L_told_580 cL cX k500 (fun x7 x8 w_a1 w_a4 w_a5 σ => f_L_told_547 cL cX k500 n x7 x8 w_a1 w_a4 w_a5 σ) x7 x8 (117 : Int32) w_a1 w_a4 w_a5 σ
       else
         f_L_told_580 cL cX k500 (fun x7 x8 w_a1 w_a4 w_a5 σ => f_L_told_547 cL cX k500 n x7 x8 w_a1 w_a4 w_a5 σ) x7 x8 (100 : Int32) w_a1 w_a4 w_a5 σ)
def f_L_told_500 (cL : Nat) (cX : Nat → Int32) : Nat → Int32 → (Nat → Int32) → (Nat → Int32) → (Nat → Int32) → k_SB → Option (Int32 × (Nat → Int32) × (Nat → Int32) × (Nat → Int32) × k_SB)
  | 0, _, _, _, _, _ => none
  | n + 1, x7, w_a1, w_a4, w_a5, σ =>
    gd (inR (4 : Int32) 21) <|
    if (w_a4 (4 : Int32).toNatClampNeg) ≤ x7 then
      (bd (f_L_rest w_a1 w_a4 σ) fun t3 =>
       gd (t3.1 = 0 ∨ t3.1 = 1) <|
       some (t3.1, t3.2.1, w_a4, w_a5, t3.2.2))
    else
      (bd (f_L_say (4283895632188088435 : Int64) w_a1 σ) fun t6 =>
       bd (f_L_put ((97 : Int32) + x7) t6.1 t6.2) fun t8 =>
       bd (f_L_put (32 : Int32) t8.1 t8.2) fun t10 =>
       gd (inR ((5 : Int32) + ((2 : Int32) * x7)) 21) <|
       lt ((w_a4 ((5 : Int32) + ((2 : Int32) * x7)).toNatClampNeg) - (1 : Int32)) fun n13 =>
       f_L_told_547 cL cX (fun x7 w_a1 w_a4 w_a5 σ => f_L_told_500 cL cX n x7 w_a1 w_a4 w_a5 σ) kFU x7 n13 t10.1 w_a4 w_a5 t10.2)
def f_L_told_336 (cL : Nat) (cX : Nat → Int32) : Nat → Int32 → Int32 → (Nat → Int32) → (Nat → Int32) → (Nat → Int32) → k_SB → Option (Int32 × (Nat → Int32) × (Nat → Int32) × (Nat → Int32) × k_SB)
  | 0, _, _, _, _, _, _ => none
  | n + 1, x6, x7, w_a1, w_a4, w_a5, σ =>
    if (2 : Int32) ≤ x7 then
      (bd (f_L_say (7809631120267764082 : Int64) w_a1 σ) fun t2 =>
       bd (f_L_say (32 : Int64) t2.1 t2.2) fun t4 =>
       gd (inR (0 : Int32) 21) <|
       bd (f_L_below (w_a4 (0 : Int32).toNatClampNeg) t4.1 t4.2) fun t7 =>
       bd (f_L_say (2338324109281092640 : Int64) t7.1 t7.2) fun t9 =>
       gd (inR (1 : Int32) 21) <|
       bd (f_L_below (w_a4 (1 : Int32).toNatClampNeg) t9.1 t9.2) fun t12 =>
       bd (f_L_say (9135191049266208 : Int64) t12.1 t12.2) fun t14 =>
       gd (inR (2 : Int32) 21) <|
       bd (f_L_below (w_a4 (2 : Int32).toNatClampNeg) t14.1 t14.2) fun t17 =>
       bd (f_L_say (2334960754885945376 : Int64) t17.1 t17.2) fun t19 =>
       gd (inR (3 : Int32) 21) <|
       bd (f_L_number (w_a4 (3 : Int32).toNatClampNeg) t19.1 t19.2) fun t22 =>
       f_L_told_500 cL cX kFU (0 : Int32) t22.1 w_a4 w_a5 t22.2)
    else
      (lt (x6 >>> (((7 : Int32) + ((8 : Int32) * x7)) &&& 31)) fun n24 =>
       gd (inR (4 : Int32) 21) <|
       gd (¬ (w_a4 (4 : Int32).toNatClampNeg) = 0) <|
       lt ((n24 &&& (1 : Int32)) - (n24 &&& (1 : Int32)) / (w_a4 (4 : Int32).toNatClampNeg) * (w_a4 (4 : Int32).toNatClampNeg)) fun n27 =>
       gd (inR ((15 : Int32) + ((3 : Int32) * x7)) 21) <|
       lt (upd w_a4 ((15 : Int32) + ((3 : Int32) * x7)).toNatClampNeg n27) fun w29 =>
       lt (((1 : Int32) + ((2 : Int32) * ((n24 >>> ((1 : Int32) &&& 31)) &&& (7 : Int32)))) + x7) fun n30 =>
       gd (inR ((16 : Int32) + ((3 : Int32) * x7)) 21) <|
       lt (upd w29 ((16 : Int32) + ((3 : Int32) * x7)).toNatClampNeg n30) fun w32 =>
       lt ((n24 >>> ((4 : Int32) &&& 31)) &&& (15 : Int32)) fun n33 =>
       gd (inR ((17 : Int32) + ((3 : Int32) * x7)) 21) <|
       lt (upd w32 ((17 : Int32) + ((3 : Int32) * x7)).toNatClampNeg n33) fun w35 =>
       f_L_told_336 cL cX n x6 (x7 + 1) w_a1 w35 w_a5 σ)
def f_L_told_332 (cL : Nat) (cX : Nat → Int32) (x6 : Int32) (s1 : Int32) (s2 : Int32) (w_a1 : Nat → Int32) (w_a4 : Nat → Int32) (w_a5 : Nat → Int32) (σ : k_SB) : Option (Int32 × (Nat → Int32) × (Nat → Int32) × (Nat → Int32) × k_SB) :=
  gd (inR s1 21) <|
  lt (upd w_a4 s1.toNatClampNeg s2) fun w2 =>
  f_L_told_336 cL cX kFU x6 (0 : Int32) w_a1 w2 w_a5 σ
def f_L_told_116 (cL : Nat) (cX : Nat → Int32) : Nat → Int32 → Int32 → Int32 → (Nat → Int32) → (Nat → Int32) → (Nat → Int32) → k_SB → Option (Int32 × (Nat → Int32) × (Nat → Int32) × (Nat → Int32) × k_SB)
  | 0, _, _, _, _, _, _, _ => none
  | n + 1, x3, x6, x7, w_a1, w_a4, w_a5, σ =>
    if (2 : Int32) ≤ x7 then
      (bd (f_L_cell cL cX (x3 + (2 : Int32))) fun t2 =>
       gd (inR (4 : Int32) 21) <|
       gd (¬ (w_a4 (4 : Int32).toNatClampNeg) = 0) <|
       lt ((t2 &&& (1 : Int32)) - (t2 &&& (1 : Int32)) / (w_a4 (4 : Int32).toNatClampNeg) * (w_a4 (4 : Int32).toNatClampNeg)) fun n5 =>
       gd (inR (10 : Int32) 21) <|
       lt (upd w_a4 (10 : Int32).toNatClampNeg n5) fun w7 =>
       gd (inR (10 : Int32) 21) <|
       gd (inR ((5 : Int32) + ((2 : Int32) * (w7 (10 : Int32).toNatClampNeg))) 21) <|
       gd (¬ (w7 ((5 : Int32) + ((2 : Int32) * (w7 (10 : Int32).toNatClampNeg))).toNatClampNeg) = 0) <|
       lt (((t2 >>> ((1 : Int32) &&& 31)) &&& (7 : Int32)) - ((t2 >>> ((1 : Int32) &&& 31)) &&& (7 : Int32)) / (w7 ((5 : Int32) + ((2 : Int32) * (w7 (10 : Int32).toNatClampNeg))).toNatClampNeg) * (w7 ((5 : Int32) + ((2 : Int32) * (w7 (10 : Int32).toNatClampNeg))).toNatClampNeg)) fun n11 =>
       gd (inR (11 : Int32) 21) <|
       lt (upd w7 (11 : Int32).toNatClampNeg n11) fun w13 =>
       gd (inR (10 : Int32) 21) <|
       gd (inR (4 : Int32) 21) <|
       gd (¬ (w13 (4 : Int32).toNatClampNeg) = 0) <|
       lt (((w13 (10 : Int32).toNatClampNeg) + (1 : Int32)) - ((w13 (10 : Int32).toNatClampNeg) + (1 : Int32)) / (w13 (4 : Int32).toNatClampNeg) * (w13 (4 : Int32).toNatClampNeg)) fun n17 =>
       gd (inR (12 : Int32) 21) <|
       lt (upd w13 (12 : Int32).toNatClampNeg n17) fun w19 =>
       gd (inR (12 : Int32) 21) <|
       gd (inR (10 : Int32) 21) <|
       if (w19 (12 : Int32).toNatClampNeg) = (w19 (10 : Int32).toNatClampNeg) then
         (gd (inR (11 : Int32) 21) <|
          gd (inR (10 : Int32) 21) <|
          gd (inR ((5 : Int32) + ((2 : Int32) * (w19 (10 : Int32).toNatClampNeg))) 21) <|
          gd (¬ (w19 ((5 : Int32) + ((2 : Int32) * (w19 (10 : Int32).toNatClampNeg))).toNatClampNeg) = 0) <|
          f_L_told_332 cL cX t2 (13 : Int32) (((w19 (11 : Int32).toNatClampNeg) + (1 : Int32)) - ((w19 (11 : Int32).toNatClampNeg) + (1 : Int32)) / (w19 ((5 : Int32) + ((2 : Int32) * (w19 (10 : Int32).toNatClampNeg))).toNatClampNeg) * (w19 ((5 : Int32) + ((2 : Int32) * (w19 (10 : Int32).toNatClampNeg))).toNatClampNeg)) w_a1 w19 w_a5 σ)
       else
         (gd (inR (12 : Int32) 21) <|
          gd (inR ((5 : Int32) + ((2 : Int32) * (w19 (12 : Int32).toNatClampNeg))) 21) <|
          gd (¬ (w19 ((5 : Int32) + ((2 : Int32) * (w19 (12 : Int32).toNatClampNeg))).toNatClampNeg) = 0) <|
          f_L_told_332 cL cX t2 (13 : Int32) (((t2 >>> ((4 : Int32) &&& 31)) &&& (7 : Int32)) - ((t2 >>> ((4 : Int32) &&& 31)) &&& (7 : Int32)) / (w19 ((5 : Int32) + ((2 : Int32) * (w19 (12 : Int32).toNatClampNeg))).toNatClampNeg) * (w19 ((5 : Int32) + ((2 : Int32) * (w19 (12 : Int32).toNatClampNeg))).toNatClampNeg)) w_a1 w19 w_a5 σ))
    else
      (lt ((2 : Int32) + (((x6 >>> (((3 : Int32) * x7) &&& 31)) &&& (7 : Int32)) - ((x6 >>> (((3 : Int32) * x7) &&& 31)) &&& (7 : Int32)) / (5 : Int32) * (5 : Int32))) fun n30 =>
       gd (inR ((5 : Int32) + ((2 : Int32) * x7)) 21) <|
       lt (upd w_a4 ((5 : Int32) + ((2 : Int32) * x7)).toNatClampNeg n30) fun w32 =>
       lt ((x6 >>> (((6 : Int32) + ((6 : Int32) * x7)) &&& 31)) &&& (((1 : Int32) <<< (n30 &&& 31)) - (1 : Int32))) fun n33 =>
       gd (inR ((6 : Int32) + ((2 : Int32) * x7)) 21) <|
       lt (upd w32 ((6 : Int32) + ((2 : Int32) * x7)).toNatClampNeg n33) fun w35 =>
       gd (inR x7 4) <|
       lt (upd w_a5 x7.toNatClampNeg n30) fun w37 =>
       gd (inR ((6 : Int32) + ((2 : Int32) * x7)) 21) <|
       lt (w35 ((6 : Int32) + ((2 : Int32) * x7)).toNatClampNeg) fun n39 =>
       gd (inR ((2 : Int32) + x7) 4) <|
       lt (upd w37 ((2 : Int32) + x7).toNatClampNeg n39) fun w41 =>
       f_L_told_116 cL cX n x3 x6 (x7 + 1) w_a1 w35 w41 σ)
def f_L_told (cL : Nat) (cX : Nat → Int32) (p3 : Int32) (w_a1 : Nat → Int32) (w_a4 : Nat → Int32) (w_a5 : Nat → Int32) (σ : k_SB) : Option (Int32 × (Nat → Int32) × (Nat → Int32) × (Nat → Int32) × k_SB) :=
  bd (f_L_cell cL cX p3) fun t1 =>
  lt ((t1 &&& (31 : Int32)) - (16 : Int32)) fun n2 =>
  gd (inR (0 : Int32) 21) <|
  lt (upd w_a4 (0 : Int32).toNatClampNeg n2) fun w4 =>
  lt (((t1 >>> ((5 : Int32) &&& 31)) &&& (31 : Int32)) - (16 : Int32)) fun n5 =>
  gd (inR (1 : Int32) 21) <|
  lt (upd w4 (1 : Int32).toNatClampNeg n5) fun w7 =>
  lt (((t1 >>> ((10 : Int32) &&& 31)) &&& (31 : Int32)) - (16 : Int32)) fun n8 =>
  gd (inR (2 : Int32) 21) <|
  lt (upd w7 (2 : Int32).toNatClampNeg n8) fun w10 =>
  lt (((t1 >>> ((15 : Int32) &&& 31)) &&& (127 : Int32)) - ((t1 >>> ((15 : Int32) &&& 31)) &&& (127 : Int32)) / (101 : Int32) * (101 : Int32)) fun n11 =>
  gd (inR (3 : Int32) 21) <|
  lt (upd w10 (3 : Int32).toNatClampNeg n11) fun w13 =>
  lt ((1 : Int32) + ((t1 >>> ((22 : Int32) &&& 31)) &&& (1 : Int32))) fun n14 =>
  gd (inR (4 : Int32) 21) <|
  lt (upd w13 (4 : Int32).toNatClampNeg n14) fun w16 =>
  lt (((t1 >>> ((23 : Int32) &&& 31)) &&& (3 : Int32)) - ((t1 >>> ((23 : Int32) &&& 31)) &&& (3 : Int32)) / (3 : Int32) * (3 : Int32)) fun n17 =>
  gd (inR (9 : Int32) 21) <|
  lt (upd w16 (9 : Int32).toNatClampNeg n17) fun w19 =>
  lt (((t1 >>> ((25 : Int32) &&& 31)) &&& (3 : Int32)) - ((t1 >>> ((25 : Int32) &&& 31)) &&& (3 : Int32)) / (3 : Int32) * (3 : Int32)) fun n20 =>
  gd (inR (14 : Int32) 21) <|
  lt (upd w19 (14 : Int32).toNatClampNeg n20) fun w22 =>
  bd (f_L_cell cL cX (p3 + (1 : Int32))) fun t23 =>
  f_L_told_116 cL cX kFU p3 t23 (0 : Int32) w_a1 w22 w_a5 σ
theorem u_L_rest_1 : (Cond.constantLong RL 55 (4284452062683620640)) ∈ wsL_rest := List.mem_of_getElem? (i := 1) (by decide +kernel)
theorem u_L_rest_2 : (Cond.constantLong RL 57 (115)) ∈ wsL_rest := List.mem_of_getElem? (i := 2) (by decide +kernel)
theorem u_L_rest_3 : (Cond.constantLong RL 59 (4278814862003758112)) ∈ wsL_rest := List.mem_of_getElem? (i := 3) (by decide +kernel)
abbrev rm_L_rest : Room := { frames := 12, cells := 0, slots := 0, locals := 262 }
theorem e_L_rest : yL_rest.cls = RL ∧ yL_rest.cls ≠ "java/lang/invoke/MethodHandle" ∧ yL_rest.cls ≠ "java/lang/invoke/VarHandle" ∧ (parseMethodDescriptor yL_rest.desc).map (fun d => d.parameters.length) = some 3 := by decide +kernel
set_option maxHeartbeats 4000000 in
set_option maxRecDepth 100000 in
theorem t_L_rest_70 {l : Launch} {G : k_G} {p : Program} {e : Env} {s : State} {m : MethodId} {args : Array Value} {below : List Frame} {meth : Method} {c : Code} {A : Nat → Prop} {h_a1 h_a2 h_o : Nat} {out : Int32 × (Nat → Int32) × k_SB} (C0 : k_C G p s m args meth c A cL_rest RL wsL_rest 4 (some .boolean) "rest") : ∀ (n : Nat) (w : va_W) (x3 : Int32) (w_a1 : Nat → Int32) (w_a2 : Nat → Int32) (σ : k_SB) (H : Heap) (locs : List Loc) (ls : Array Slot), XW G h_o σ w → va_P G.1 vwCl ([(h_a1, .inl (k_cI G, 7, .inl w_a1)), (h_a2, .inl (k_cI G, 21, .inl w_a2))] ++ w) H → va_D A ([(h_a1, .inl (k_cI G, 7, .inl w_a1)), (h_a2, .inl (k_cI G, 21, .inl w_a2))] ++ w) → va_S A s.heap H locs → lv_has ls 4 [(0, .ref h_o), (1, .ref h_a1), (2, .ref h_a2), (3, .int x3)] → f_L_rest_70 n x3 w_a1 w_a2 σ = some out → W p l e rm_L_rest s m args below meth c H locs 0 0 (MQ below (va_Qi (fun r (u9 : va_W) => r = out.1 ∧ (fun u9 : va_W => ∃ w9, u9 = [(h_a1, .inl (k_cI G, 7, .inl out.2.1)), (h_a2, .inl (k_cI G, 21, .inl w_a2))] ++ w9 ∧ XW G h_o out.2.2 w9) u9) (fun u9 t => k_PB G A u9 t) A) args s 0 0 A) (F0 m 70 ls []) := by
  have hx := C0.1
  have hb := C0.2.1
  have hts := C0.2.2.2.1
  have hown := C0.2.2.2.2.1
  have hK := C0.2.2.2.2.2.2.2.2.1.1
  have hNW := C0.2.2.2.2.2.2.2.2.1.2.1
  have hSF := C0.2.2.2.2.2.2.2.2.1.2.2
  intro n
  induction n with
  | zero =>
    intro w x3 w_a1 w_a2 σ H locs ls hXW hP hD hS hl hrun
    rw [f_L_rest_70] at hrun
    cases hrun
  | succ n ih =>
    intro w x3 w_a1 w_a2 σ H locs ls hXW hP hD hS hl hrun
    rw [f_L_rest_70] at hrun
    refine lv_iload_n hx hb dL_rest_70 rfl (lv_at hl 3 rfl) ?_
    refine lv_aload_n hx hb dL_rest_71 rfl (lv_at hl 2 rfl) ?_
    refine lv_bipush (v := 14) hx hb dL_rest_72 (by decide) ?_
    obtain ⟨gz1, hrun⟩ := gd_inv hrun
    refine va_iald hx hb hK hP 1 1 rfl rfl gz1 dL_rest_74 ?_
    refine lv_icmp_ge (tgt := 156) hx hb dL_rest_75 (by decide) (fun q2 => ?_) (fun q2 => ?_)
    · replace hrun := if_t q2 hrun
      refine lv_aload_n hx hb dL_rest_156 rfl (lv_at hl 0 rfl) ?_
      refine lv_aload_n hx hb dL_rest_157 rfl (lv_at hl 0 rfl) ?_
      refine lv_aload_n hx hb dL_rest_158 rfl (lv_at hl 1 rfl) ?_
      obtain ⟨t3, et3, hrun⟩ := bd_inv hrun
      have hpm : List.Perm ([(h_a1, .inl (k_cI G, 7, .inl w_a1)), (h_a2, .inl (k_cI G, 21, .inl w_a2))] ++ w) ([(h_a2, .inl (k_cI G, 21, .inl w_a2))] ++ ([(h_a1, .inl (k_cI G, 7, .inl w_a1))] ++ w)) := (List.Perm.swap _ _ _)
      have hP9 := k_permP hP hpm
      have hD9 := k_permD hD hpm
      refine lw_callSi (wr := [(h_a2, .inl (k_cI G, 21, .inl w_a2))]) (wc := ([(h_a1, .inl (k_cI G, 7, .inl w_a1))] ++ w)) (rest := [.ref h_o]) C0 (c_L_said hXW et3 H.size) (va_cwS 2 hts gL_rest_L_said rfl rfl rfl e_L_said.2 ⟨Nat.le_of_ble_eq_true rfl, Nat.le_of_ble_eq_true rfl⟩) hP9 hD9 hS rfl hl.1 rfl (Nat.le_of_ble_eq_true rfl) dL_rest_159 ⟨Nat.le_of_ble_eq_true rfl, Nat.le_of_ble_eq_true rfl⟩ (fun u9 H locs hu9 hP hD hS => ?_)
      obtain ⟨w4, rfl, hXW⟩ := hu9
      clear hpm hP9 hD9
      have hpm : List.Perm ([(h_a2, .inl (k_cI G, 21, .inl w_a2))] ++ ([(h_a1, .inl (k_cI G, 7, .inl t3.2.1))] ++ w4)) ([(h_a1, .inl (k_cI G, 7, .inl t3.2.1)), (h_a2, .inl (k_cI G, 21, .inl w_a2))] ++ w4) := (List.Perm.swap _ _ _)
      have hP : va_P G.1 vwCl ([(h_a1, .inl (k_cI G, 7, .inl t3.2.1)), (h_a2, .inl (k_cI G, 21, .inl w_a2))] ++ w4) H := k_permP hP hpm
      have hD : va_D A ([(h_a1, .inl (k_cI G, 7, .inl t3.2.1)), (h_a2, .inl (k_cI G, 21, .inl w_a2))] ++ w4) := k_permD hD hpm
      clear hpm
      clear et3
      obtain ⟨t5, et5, hrun⟩ := bd_inv hrun
      obtain ⟨gz9, hrun⟩ := gd_inv hrun
      obtain ⟨σ6, eσ6, hrun⟩ := lt_inv hrun
      obtain ⟨fs9, he9⟩ := XW_head hXW
      refine lw_callVi (wr := [(h_a1, .inl (k_cI G, 7, .inl t3.2.1)), (h_a2, .inl (k_cI G, 21, .inl w_a2))]) (rest := []) C0 (lx_lab2 hXW et5 gz9 H.size) (cwV 1 hts gL_rest_X11_lab rfl rfl rfl e_X11_lab ⟨Nat.le_of_ble_eq_true rfl, Nat.le_of_ble_eq_true rfl⟩) hP hD hS rfl rfl he9 rfl hl.1 rfl (Nat.le_of_ble_eq_true rfl) dL_rest_162 ⟨Nat.le_of_ble_eq_true rfl, Nat.le_of_ble_eq_true rfl⟩ (fun w7 H locs hXW hP hD hS => ?_)
      replace hXW : XW G h_o σ6 w7 := by rw [eσ6]; exact hXW
      clear et5 eσ6 he9
      refine lv_aload_n hx hb dL_rest_165 rfl (lv_at hl 2 rfl) ?_
      refine lv_iconst (v := 4) hx hb dL_rest_166 (by decide) ?_
      obtain ⟨gz8, hrun⟩ := gd_inv hrun
      refine va_iald hx hb hK hP 1 1 rfl rfl gz8 dL_rest_167 ?_
      refine lv_icmp_ne (tgt := 175) hx hb dL_rest_168 (by decide) (fun q9 => ?_) (fun q9 => ?_)
      · replace hrun := if_f q9 hrun
        refine lv_iconst (v := 0) hx hb dL_rest_175 (by decide) ?_
        obtain rfl := Option.some.inj hrun
        exact kd_retz C0 hP hD hS ⟨w7, rfl, hXW⟩ rfl rfl dL_rest_176
      · replace hrun := if_t q9 hrun
        refine lv_iconst (v := 1) hx hb dL_rest_171 (by decide) ?_
        refine lv_goto (tgt := 176) hx hb dL_rest_172 (by decide) ?_
        obtain rfl := Option.some.inj hrun
        exact kd_retz C0 hP hD hS ⟨w7, rfl, hXW⟩ rfl rfl dL_rest_176
    · replace hrun := if_f q2 hrun
      refine lv_aload_n hx hb dL_rest_78 rfl (lv_at hl 0 rfl) ?_
      refine lv_aload_n hx hb dL_rest_79 rfl (lv_at hl 1 rfl) ?_
      refine lv_ldc2 (v := 4278814862003758112) hx hb hown (hts _ u_L_rest_3) dL_rest_80 ?_
      obtain ⟨t10, et10, hrun⟩ := bd_inv hrun
      have hpm : List.Perm ([(h_a1, .inl (k_cI G, 7, .inl w_a1)), (h_a2, .inl (k_cI G, 21, .inl w_a2))] ++ w) ([(h_a2, .inl (k_cI G, 21, .inl w_a2))] ++ ([(h_a1, .inl (k_cI G, 7, .inl w_a1))] ++ w)) := (List.Perm.swap _ _ _)
      have hP9 := k_permP hP hpm
      have hD9 := k_permD hD hpm
      refine lw_callSv (wr := [(h_a2, .inl (k_cI G, 21, .inl w_a2))]) (wc := ([(h_a1, .inl (k_cI G, 7, .inl w_a1))] ++ w)) (rest := []) C0 (c_L_say hXW et10 H.size) (va_cwS 3 hts gL_rest_L_say rfl rfl rfl e_L_say.2 ⟨Nat.le_of_ble_eq_true rfl, Nat.le_of_ble_eq_true rfl⟩) hP9 hD9 hS rfl hl.1 rfl (Nat.le_of_ble_eq_true rfl) dL_rest_83 ⟨Nat.le_of_ble_eq_true rfl, Nat.le_of_ble_eq_true rfl⟩ (fun u9 H locs hu9 hP hD hS => ?_)
      obtain ⟨w11, rfl, hXW⟩ := hu9
      clear hpm hP9 hD9
      have hpm : List.Perm ([(h_a2, .inl (k_cI G, 21, .inl w_a2))] ++ ([(h_a1, .inl (k_cI G, 7, .inl t10.1))] ++ w11)) ([(h_a1, .inl (k_cI G, 7, .inl t10.1)), (h_a2, .inl (k_cI G, 21, .inl w_a2))] ++ w11) := (List.Perm.swap _ _ _)
      have hP : va_P G.1 vwCl ([(h_a1, .inl (k_cI G, 7, .inl t10.1)), (h_a2, .inl (k_cI G, 21, .inl w_a2))] ++ w11) H := k_permP hP hpm
      have hD : va_D A ([(h_a1, .inl (k_cI G, 7, .inl t10.1)), (h_a2, .inl (k_cI G, 21, .inl w_a2))] ++ w11) := k_permD hD hpm
      clear hpm
      clear et10
      refine lv_aload_n hx hb dL_rest_86 rfl (lv_at hl 0 rfl) ?_
      refine lv_aload_n hx hb dL_rest_87 rfl (lv_at hl 1 rfl) ?_
      refine lv_ldc2 (v := 115) hx hb hown (hts _ u_L_rest_2) dL_rest_88 ?_
      obtain ⟨t12, et12, hrun⟩ := bd_inv hrun
      have hpm : List.Perm ([(h_a1, .inl (k_cI G, 7, .inl t10.1)), (h_a2, .inl (k_cI G, 21, .inl w_a2))] ++ w11) ([(h_a2, .inl (k_cI G, 21, .inl w_a2))] ++ ([(h_a1, .inl (k_cI G, 7, .inl t10.1))] ++ w11)) := (List.Perm.swap _ _ _)
      have hP9 := k_permP hP hpm
      have hD9 := k_permD hD hpm
      refine lw_callSv (wr := [(h_a2, .inl (k_cI G, 21, .inl w_a2))]) (wc := ([(h_a1, .inl (k_cI G, 7, .inl t10.1))] ++ w11)) (rest := []) C0 (c_L_say hXW et12 H.size) (va_cwS 3 hts gL_rest_L_say rfl rfl rfl e_L_say.2 ⟨Nat.le_of_ble_eq_true rfl, Nat.le_of_ble_eq_true rfl⟩) hP9 hD9 hS rfl hl.1 rfl (Nat.le_of_ble_eq_true rfl) dL_rest_91 ⟨Nat.le_of_ble_eq_true rfl, Nat.le_of_ble_eq_true rfl⟩ (fun u9 H locs hu9 hP hD hS => ?_)
      obtain ⟨w13, rfl, hXW⟩ := hu9
      clear hpm hP9 hD9
      have hpm : List.Perm ([(h_a2, .inl (k_cI G, 21, .inl w_a2))] ++ ([(h_a1, .inl (k_cI G, 7, .inl t12.1))] ++ w13)) ([(h_a1, .inl (k_cI G, 7, .inl t12.1)), (h_a2, .inl (k_cI G, 21, .inl w_a2))] ++ w13) := (List.Perm.swap _ _ _)
      have hP : va_P G.1 vwCl ([(h_a1, .inl (k_cI G, 7, .inl t12.1)), (h_a2, .inl (k_cI G, 21, .inl w_a2))] ++ w13) H := k_permP hP hpm
      have hD : va_D A ([(h_a1, .inl (k_cI G, 7, .inl t12.1)), (h_a2, .inl (k_cI G, 21, .inl w_a2))] ++ w13) := k_permD hD hpm
      clear hpm
      clear et12
      refine lv_aload_n hx hb dL_rest_94 rfl (lv_at hl 0 rfl) ?_
      refine lv_aload_n hx hb dL_rest_95 rfl (lv_at hl 1 rfl) ?_
      refine lv_bipush (v := 97) hx hb dL_rest_96 (by decide) ?_
      refine lv_aload_n hx hb dL_rest_98 rfl (lv_at hl 2 rfl) ?_
      refine lv_bipush (v := 15) hx hb dL_rest_99 (by decide) ?_
      refine lv_iconst (v := 3) hx hb dL_rest_101 (by decide) ?_
      refine lv_iload_n hx hb dL_rest_102 rfl (lv_at hl 3 rfl) ?_
      refine lv_imul hx hb dL_rest_103 ?_
      refine lv_iadd hx hb dL_rest_104 ?_
      obtain ⟨gz14, hrun⟩ := gd_inv hrun
      refine va_iald hx hb hK hP 1 1 rfl rfl gz14 dL_rest_105 ?_
      refine lv_iadd hx hb dL_rest_106 ?_
      obtain ⟨t15, et15, hrun⟩ := bd_inv hrun
      have hpm : List.Perm ([(h_a1, .inl (k_cI G, 7, .inl t12.1)), (h_a2, .inl (k_cI G, 21, .inl w_a2))] ++ w13) ([(h_a2, .inl (k_cI G, 21, .inl w_a2))] ++ ([(h_a1, .inl (k_cI G, 7, .inl t12.1))] ++ w13)) := (List.Perm.swap _ _ _)
      have hP9 := k_permP hP hpm
      have hD9 := k_permD hD hpm
      refine lw_callSv (wr := [(h_a2, .inl (k_cI G, 21, .inl w_a2))]) (wc := ([(h_a1, .inl (k_cI G, 7, .inl t12.1))] ++ w13)) (rest := []) C0 (c_L_put hXW et15 H.size) (va_cwS 3 hts gL_rest_L_put rfl rfl rfl e_L_put.2 ⟨Nat.le_of_ble_eq_true rfl, Nat.le_of_ble_eq_true rfl⟩) hP9 hD9 hS rfl hl.1 rfl (Nat.le_of_ble_eq_true rfl) dL_rest_107 ⟨Nat.le_of_ble_eq_true rfl, Nat.le_of_ble_eq_true rfl⟩ (fun u9 H locs hu9 hP hD hS => ?_)
      obtain ⟨w16, rfl, hXW⟩ := hu9
      clear hpm hP9 hD9
      have hpm : List.Perm ([(h_a2, .inl (k_cI G, 21, .inl w_a2))] ++ ([(h_a1, .inl (k_cI G, 7, .inl t15.1))] ++ w16)) ([(h_a1, .inl (k_cI G, 7, .inl t15.1)), (h_a2, .inl (k_cI G, 21, .inl w_a2))] ++ w16) := (List.Perm.swap _ _ _)
      have hP : va_P G.1 vwCl ([(h_a1, .inl (k_cI G, 7, .inl t15.1)), (h_a2, .inl (k_cI G, 21, .inl w_a2))] ++ w16) H := k_permP hP hpm
      have hD : va_D A ([(h_a1, .inl (k_cI G, 7, .inl t15.1)), (h_a2, .inl (k_cI G, 21, .inl w_a2))] ++ w16) := k_permD hD hpm
      clear hpm
      clear et15
      refine lv_aload_n hx hb dL_rest_110 rfl (lv_at hl 0 rfl) ?_
      refine lv_aload_n hx hb dL_rest_111 rfl (lv_at hl 1 rfl) ?_
      refine lv_bipush (v := 32) hx hb dL_rest_112 (by decide) ?_
      obtain ⟨t17, et17, hrun⟩ := bd_inv hrun
      have hpm : List.Perm ([(h_a1, .inl (k_cI G, 7, .inl t15.1)), (h_a2, .inl (k_cI G, 21, .inl w_a2))] ++ w16) ([(h_a2, .inl (k_cI G, 21, .inl w_a2))] ++ ([(h_a1, .inl (k_cI G, 7, .inl t15.1))] ++ w16)) := (List.Perm.swap _ _ _)
      have hP9 := k_permP hP hpm
      have hD9 := k_permD hD hpm
      refine lw_callSv (wr := [(h_a2, .inl (k_cI G, 21, .inl w_a2))]) (wc := ([(h_a1, .inl (k_cI G, 7, .inl t15.1))] ++ w16)) (rest := []) C0 (c_L_put hXW et17 H.size) (va_cwS 3 hts gL_rest_L_put rfl rfl rfl e_L_put.2 ⟨Nat.le_of_ble_eq_true rfl, Nat.le_of_ble_eq_true rfl⟩) hP9 hD9 hS rfl hl.1 rfl (Nat.le_of_ble_eq_true rfl) dL_rest_114 ⟨Nat.le_of_ble_eq_true rfl, Nat.le_of_ble_eq_true rfl⟩ (fun u9 H locs hu9 hP hD hS => ?_)
      obtain ⟨w18, rfl, hXW⟩ := hu9
      clear hpm hP9 hD9
      have hpm : List.Perm ([(h_a2, .inl (k_cI G, 21, .inl w_a2))] ++ ([(h_a1, .inl (k_cI G, 7, .inl t17.1))] ++ w18)) ([(h_a1, .inl (k_cI G, 7, .inl t17.1)), (h_a2, .inl (k_cI G, 21, .inl w_a2))] ++ w18) := (List.Perm.swap _ _ _)
      have hP : va_P G.1 vwCl ([(h_a1, .inl (k_cI G, 7, .inl t17.1)), (h_a2, .inl (k_cI G, 21, .inl w_a2))] ++ w18) H := k_permP hP hpm
      have hD : va_D A ([(h_a1, .inl (k_cI G, 7, .inl t17.1)), (h_a2, .inl (k_cI G, 21, .inl w_a2))] ++ w18) := k_permD hD hpm
      clear hpm
      clear et17
      refine lv_aload_n hx hb dL_rest_117 rfl (lv_at hl 0 rfl) ?_
      refine lv_aload_n hx hb dL_rest_118 rfl (lv_at hl 1 rfl) ?_
      refine lv_aload_n hx hb dL_rest_119 rfl (lv_at hl 2 rfl) ?_
      refine lv_bipush (v := 16) hx hb dL_rest_120 (by decide) ?_
      refine lv_iconst (v := 3) hx hb dL_rest_122 (by decide) ?_
      refine lv_iload_n hx hb dL_rest_123 rfl (lv_at hl 3 rfl) ?_
      refine lv_imul hx hb dL_rest_124 ?_
      refine lv_iadd hx hb dL_rest_125 ?_
      obtain ⟨gz19, hrun⟩ := gd_inv hrun
      refine va_iald hx hb hK hP 1 1 rfl rfl gz19 dL_rest_126 ?_
      obtain ⟨t20, et20, hrun⟩ := bd_inv hrun
      have hpm : List.Perm ([(h_a1, .inl (k_cI G, 7, .inl t17.1)), (h_a2, .inl (k_cI G, 21, .inl w_a2))] ++ w18) ([(h_a2, .inl (k_cI G, 21, .inl w_a2))] ++ ([(h_a1, .inl (k_cI G, 7, .inl t17.1))] ++ w18)) := (List.Perm.swap _ _ _)
      have hP9 := k_permP hP hpm
      have hD9 := k_permD hD hpm
      refine lw_callSv (wr := [(h_a2, .inl (k_cI G, 21, .inl w_a2))]) (wc := ([(h_a1, .inl (k_cI G, 7, .inl t17.1))] ++ w18)) (rest := []) C0 (c_L_number hXW et20 H.size) (va_cwS 3 hts gL_rest_L_number rfl rfl rfl e_L_number.2 ⟨Nat.le_of_ble_eq_true rfl, Nat.le_of_ble_eq_true rfl⟩) hP9 hD9 hS rfl hl.1 rfl (Nat.le_of_ble_eq_true rfl) dL_rest_127 ⟨Nat.le_of_ble_eq_true rfl, Nat.le_of_ble_eq_true rfl⟩ (fun u9 H locs hu9 hP hD hS => ?_)
      obtain ⟨w21, rfl, hXW⟩ := hu9
      clear hpm hP9 hD9
      have hpm : List.Perm ([(h_a2, .inl (k_cI G, 21, .inl w_a2))] ++ ([(h_a1, .inl (k_cI G, 7, .inl t20.1))] ++ w21)) ([(h_a1, .inl (k_cI G, 7, .inl t20.1)), (h_a2, .inl (k_cI G, 21, .inl w_a2))] ++ w21) := (List.Perm.swap _ _ _)
      have hP : va_P G.1 vwCl ([(h_a1, .inl (k_cI G, 7, .inl t20.1)), (h_a2, .inl (k_cI G, 21, .inl w_a2))] ++ w21) H := k_permP hP hpm
      have hD : va_D A ([(h_a1, .inl (k_cI G, 7, .inl t20.1)), (h_a2, .inl (k_cI G, 21, .inl w_a2))] ++ w21) := k_permD hD hpm
      clear hpm
      clear et20
      refine lv_aload_n hx hb dL_rest_130 rfl (lv_at hl 0 rfl) ?_
      refine lv_aload_n hx hb dL_rest_131 rfl (lv_at hl 1 rfl) ?_
      refine lv_bipush (v := 32) hx hb dL_rest_132 (by decide) ?_
      obtain ⟨t22, et22, hrun⟩ := bd_inv hrun
      have hpm : List.Perm ([(h_a1, .inl (k_cI G, 7, .inl t20.1)), (h_a2, .inl (k_cI G, 21, .inl w_a2))] ++ w21) ([(h_a2, .inl (k_cI G, 21, .inl w_a2))] ++ ([(h_a1, .inl (k_cI G, 7, .inl t20.1))] ++ w21)) := (List.Perm.swap _ _ _)
      have hP9 := k_permP hP hpm
      have hD9 := k_permD hD hpm
      refine lw_callSv (wr := [(h_a2, .inl (k_cI G, 21, .inl w_a2))]) (wc := ([(h_a1, .inl (k_cI G, 7, .inl t20.1))] ++ w21)) (rest := []) C0 (c_L_put hXW et22 H.size) (va_cwS 3 hts gL_rest_L_put rfl rfl rfl e_L_put.2 ⟨Nat.le_of_ble_eq_true rfl, Nat.le_of_ble_eq_true rfl⟩) hP9 hD9 hS rfl hl.1 rfl (Nat.le_of_ble_eq_true rfl) dL_rest_134 ⟨Nat.le_of_ble_eq_true rfl, Nat.le_of_ble_eq_true rfl⟩ (fun u9 H locs hu9 hP hD hS => ?_)
      obtain ⟨w23, rfl, hXW⟩ := hu9
      clear hpm hP9 hD9
      have hpm : List.Perm ([(h_a2, .inl (k_cI G, 21, .inl w_a2))] ++ ([(h_a1, .inl (k_cI G, 7, .inl t22.1))] ++ w23)) ([(h_a1, .inl (k_cI G, 7, .inl t22.1)), (h_a2, .inl (k_cI G, 21, .inl w_a2))] ++ w23) := (List.Perm.swap _ _ _)
      have hP : va_P G.1 vwCl ([(h_a1, .inl (k_cI G, 7, .inl t22.1)), (h_a2, .inl (k_cI G, 21, .inl w_a2))] ++ w23) H := k_permP hP hpm
      have hD : va_D A ([(h_a1, .inl (k_cI G, 7, .inl t22.1)), (h_a2, .inl (k_cI G, 21, .inl w_a2))] ++ w23) := k_permD hD hpm
      clear hpm
      clear et22
      refine lv_aload_n hx hb dL_rest_137 rfl (lv_at hl 0 rfl) ?_
      refine lv_aload_n hx hb dL_rest_138 rfl (lv_at hl 1 rfl) ?_
      refine lv_aload_n hx hb dL_rest_139 rfl (lv_at hl 2 rfl) ?_
      refine lv_bipush (v := 17) hx hb dL_rest_140 (by decide) ?_
      refine lv_iconst (v := 3) hx hb dL_rest_142 (by decide) ?_
      refine lv_iload_n hx hb dL_rest_143 rfl (lv_at hl 3 rfl) ?_
      refine lv_imul hx hb dL_rest_144 ?_
      refine lv_iadd hx hb dL_rest_145 ?_
      obtain ⟨gz24, hrun⟩ := gd_inv hrun
      refine va_iald hx hb hK hP 1 1 rfl rfl gz24 dL_rest_146 ?_
      obtain ⟨t25, et25, hrun⟩ := bd_inv hrun
      have hpm : List.Perm ([(h_a1, .inl (k_cI G, 7, .inl t22.1)), (h_a2, .inl (k_cI G, 21, .inl w_a2))] ++ w23) ([(h_a2, .inl (k_cI G, 21, .inl w_a2))] ++ ([(h_a1, .inl (k_cI G, 7, .inl t22.1))] ++ w23)) := (List.Perm.swap _ _ _)
      have hP9 := k_permP hP hpm
      have hD9 := k_permD hD hpm
      refine lw_callSv (wr := [(h_a2, .inl (k_cI G, 21, .inl w_a2))]) (wc := ([(h_a1, .inl (k_cI G, 7, .inl t22.1))] ++ w23)) (rest := []) C0 (c_L_number hXW et25 H.size) (va_cwS 3 hts gL_rest_L_number rfl rfl rfl e_L_number.2 ⟨Nat.le_of_ble_eq_true rfl, Nat.le_of_ble_eq_true rfl⟩) hP9 hD9 hS rfl hl.1 rfl (Nat.le_of_ble_eq_true rfl) dL_rest_147 ⟨Nat.le_of_ble_eq_true rfl, Nat.le_of_ble_eq_true rfl⟩ (fun u9 H locs hu9 hP hD hS => ?_)
      obtain ⟨w26, rfl, hXW⟩ := hu9
      clear hpm hP9 hD9
      have hpm : List.Perm ([(h_a2, .inl (k_cI G, 21, .inl w_a2))] ++ ([(h_a1, .inl (k_cI G, 7, .inl t25.1))] ++ w26)) ([(h_a1, .inl (k_cI G, 7, .inl t25.1)), (h_a2, .inl (k_cI G, 21, .inl w_a2))] ++ w26) := (List.Perm.swap _ _ _)
      have hP : va_P G.1 vwCl ([(h_a1, .inl (k_cI G, 7, .inl t25.1)), (h_a2, .inl (k_cI G, 21, .inl w_a2))] ++ w26) H := k_permP hP hpm
      have hD : va_D A ([(h_a1, .inl (k_cI G, 7, .inl t25.1)), (h_a2, .inl (k_cI G, 21, .inl w_a2))] ++ w26) := k_permD hD hpm
      clear hpm
      clear et25
      refine lv_iinc (v := x3 + 1) (lv' := [(3, .int (x3 + 1)), (0, .ref h_o), (1, .ref h_a1), (2, .ref h_a2)]) hx hb dL_rest_150 hl (k := 3) rfl rfl (by decide) rfl (fun ls hl => ?_)
      refine lv_goto (tgt := 70) hx hb dL_rest_153 (by decide) ?_
      exact ih w26 (x3 + 1) t25.1 w_a2 t25.2 _ _ _ hXW hP hD hS (lv_sub hl [1, 2, 3, 0] rfl) hrun
set_option maxHeartbeats 4000000 in
set_option maxRecDepth 100000 in
theorem t_L_rest_2 {l : Launch} {G : k_G} {p : Program} {e : Env} {s : State} {m : MethodId} {args : Array Value} {below : List Frame} {meth : Method} {c : Code} {A : Nat → Prop} {h_a1 h_a2 h_o : Nat} {out : Int32 × (Nat → Int32) × k_SB} (C0 : k_C G p s m args meth c A cL_rest RL wsL_rest 4 (some .boolean) "rest") : ∀ (n : Nat) (w : va_W) (x3 : Int32) (w_a1 : Nat → Int32) (w_a2 : Nat → Int32) (σ : k_SB) (H : Heap) (locs : List Loc) (ls : Array Slot), XW G h_o σ w → va_P G.1 vwCl ([(h_a1, .inl (k_cI G, 7, .inl w_a1)), (h_a2, .inl (k_cI G, 21, .inl w_a2))] ++ w) H → va_D A ([(h_a1, .inl (k_cI G, 7, .inl w_a1)), (h_a2, .inl (k_cI G, 21, .inl w_a2))] ++ w) → va_S A s.heap H locs → lv_has ls 4 [(0, .ref h_o), (1, .ref h_a1), (2, .ref h_a2), (3, .int x3)] → f_L_rest_2 n x3 w_a1 w_a2 σ = some out → W p l e rm_L_rest s m args below meth c H locs 0 0 (MQ below (va_Qi (fun r (u9 : va_W) => r = out.1 ∧ (fun u9 : va_W => ∃ w9, u9 = [(h_a1, .inl (k_cI G, 7, .inl out.2.1)), (h_a2, .inl (k_cI G, 21, .inl w_a2))] ++ w9 ∧ XW G h_o out.2.2 w9) u9) (fun u9 t => k_PB G A u9 t) A) args s 0 0 A) (F0 m 2 ls []) := by
  have hx := C0.1
  have hb := C0.2.1
  have hts := C0.2.2.2.1
  have hown := C0.2.2.2.2.1
  have hK := C0.2.2.2.2.2.2.2.2.1.1
  have hNW := C0.2.2.2.2.2.2.2.2.1.2.1
  have hSF := C0.2.2.2.2.2.2.2.2.1.2.2
  intro n
  induction n with
  | zero =>
    intro w x3 w_a1 w_a2 σ H locs ls hXW hP hD hS hl hrun
    rw [f_L_rest_2] at hrun
    cases hrun
  | succ n ih =>
    intro w x3 w_a1 w_a2 σ H locs ls hXW hP hD hS hl hrun
    rw [f_L_rest_2] at hrun
    refine lv_iload_n hx hb dL_rest_2 rfl (lv_at hl 3 rfl) ?_
    refine lv_aload_n hx hb dL_rest_3 rfl (lv_at hl 2 rfl) ?_
    refine lv_bipush (v := 9) hx hb dL_rest_4 (by decide) ?_
    obtain ⟨gz1, hrun⟩ := gd_inv hrun
    refine va_iald hx hb hK hP 1 1 rfl rfl gz1 dL_rest_6 ?_
    refine lv_icmp_ge (tgt := 68) hx hb dL_rest_7 (by decide) (fun q2 => ?_) (fun q2 => ?_)
    · replace hrun := if_t q2 hrun
      refine lv_iconst (v := 0) hx hb dL_rest_68 (by decide) ?_
      refine lv_istore_n (lv' := [(3, .int (0 : Int32)), (0, .ref h_o), (1, .ref h_a1), (2, .ref h_a2)]) hx hb dL_rest_69 rfl hl (by decide) rfl (fun ls hl => ?_)
      exact t_L_rest_70 C0 kFU w (0 : Int32) w_a1 w_a2 σ _ _ _ hXW hP hD hS (lv_sub hl [1, 2, 3, 0] rfl) hrun
    · replace hrun := if_f q2 hrun
      refine lv_aload_n hx hb dL_rest_10 rfl (lv_at hl 0 rfl) ?_
      refine lv_aload_n hx hb dL_rest_11 rfl (lv_at hl 1 rfl) ?_
      refine lv_ldc2 (v := 4284452062683620640) hx hb hown (hts _ u_L_rest_1) dL_rest_12 ?_
      obtain ⟨t3, et3, hrun⟩ := bd_inv hrun
      have hpm : List.Perm ([(h_a1, .inl (k_cI G, 7, .inl w_a1)), (h_a2, .inl (k_cI G, 21, .inl w_a2))] ++ w) ([(h_a2, .inl (k_cI G, 21, .inl w_a2))] ++ ([(h_a1, .inl (k_cI G, 7, .inl w_a1))] ++ w)) := (List.Perm.swap _ _ _)
      have hP9 := k_permP hP hpm
      have hD9 := k_permD hD hpm
      refine lw_callSv (wr := [(h_a2, .inl (k_cI G, 21, .inl w_a2))]) (wc := ([(h_a1, .inl (k_cI G, 7, .inl w_a1))] ++ w)) (rest := []) C0 (c_L_say hXW et3 H.size) (va_cwS 3 hts gL_rest_L_say rfl rfl rfl e_L_say.2 ⟨Nat.le_of_ble_eq_true rfl, Nat.le_of_ble_eq_true rfl⟩) hP9 hD9 hS rfl hl.1 rfl (Nat.le_of_ble_eq_true rfl) dL_rest_15 ⟨Nat.le_of_ble_eq_true rfl, Nat.le_of_ble_eq_true rfl⟩ (fun u9 H locs hu9 hP hD hS => ?_)
      obtain ⟨w4, rfl, hXW⟩ := hu9
      clear hpm hP9 hD9
      have hpm : List.Perm ([(h_a2, .inl (k_cI G, 21, .inl w_a2))] ++ ([(h_a1, .inl (k_cI G, 7, .inl t3.1))] ++ w4)) ([(h_a1, .inl (k_cI G, 7, .inl t3.1)), (h_a2, .inl (k_cI G, 21, .inl w_a2))] ++ w4) := (List.Perm.swap _ _ _)
      have hP : va_P G.1 vwCl ([(h_a1, .inl (k_cI G, 7, .inl t3.1)), (h_a2, .inl (k_cI G, 21, .inl w_a2))] ++ w4) H := k_permP hP hpm
      have hD : va_D A ([(h_a1, .inl (k_cI G, 7, .inl t3.1)), (h_a2, .inl (k_cI G, 21, .inl w_a2))] ++ w4) := k_permD hD hpm
      clear hpm
      clear et3
      refine lv_aload_n hx hb dL_rest_18 rfl (lv_at hl 0 rfl) ?_
      refine lv_aload_n hx hb dL_rest_19 rfl (lv_at hl 1 rfl) ?_
      refine lv_ldc2 (v := 115) hx hb hown (hts _ u_L_rest_2) dL_rest_20 ?_
      obtain ⟨t5, et5, hrun⟩ := bd_inv hrun
      have hpm : List.Perm ([(h_a1, .inl (k_cI G, 7, .inl t3.1)), (h_a2, .inl (k_cI G, 21, .inl w_a2))] ++ w4) ([(h_a2, .inl (k_cI G, 21, .inl w_a2))] ++ ([(h_a1, .inl (k_cI G, 7, .inl t3.1))] ++ w4)) := (List.Perm.swap _ _ _)
      have hP9 := k_permP hP hpm
      have hD9 := k_permD hD hpm
      refine lw_callSv (wr := [(h_a2, .inl (k_cI G, 21, .inl w_a2))]) (wc := ([(h_a1, .inl (k_cI G, 7, .inl t3.1))] ++ w4)) (rest := []) C0 (c_L_say hXW et5 H.size) (va_cwS 3 hts gL_rest_L_say rfl rfl rfl e_L_say.2 ⟨Nat.le_of_ble_eq_true rfl, Nat.le_of_ble_eq_true rfl⟩) hP9 hD9 hS rfl hl.1 rfl (Nat.le_of_ble_eq_true rfl) dL_rest_23 ⟨Nat.le_of_ble_eq_true rfl, Nat.le_of_ble_eq_true rfl⟩ (fun u9 H locs hu9 hP hD hS => ?_)
      obtain ⟨w6, rfl, hXW⟩ := hu9
      clear hpm hP9 hD9
      have hpm : List.Perm ([(h_a2, .inl (k_cI G, 21, .inl w_a2))] ++ ([(h_a1, .inl (k_cI G, 7, .inl t5.1))] ++ w6)) ([(h_a1, .inl (k_cI G, 7, .inl t5.1)), (h_a2, .inl (k_cI G, 21, .inl w_a2))] ++ w6) := (List.Perm.swap _ _ _)
      have hP : va_P G.1 vwCl ([(h_a1, .inl (k_cI G, 7, .inl t5.1)), (h_a2, .inl (k_cI G, 21, .inl w_a2))] ++ w6) H := k_permP hP hpm
      have hD : va_D A ([(h_a1, .inl (k_cI G, 7, .inl t5.1)), (h_a2, .inl (k_cI G, 21, .inl w_a2))] ++ w6) := k_permD hD hpm
      clear hpm
      clear et5
      refine lv_aload_n hx hb dL_rest_26 rfl (lv_at hl 0 rfl) ?_
      refine lv_aload_n hx hb dL_rest_27 rfl (lv_at hl 1 rfl) ?_
      refine lv_bipush (v := 97) hx hb dL_rest_28 (by decide) ?_
      refine lv_aload_n hx hb dL_rest_30 rfl (lv_at hl 2 rfl) ?_
      refine lv_bipush (v := 10) hx hb dL_rest_31 (by decide) ?_
      refine lv_iconst (v := 2) hx hb dL_rest_33 (by decide) ?_
      refine lv_iload_n hx hb dL_rest_34 rfl (lv_at hl 3 rfl) ?_
      refine lv_imul hx hb dL_rest_35 ?_
      refine lv_iadd hx hb dL_rest_36 ?_
      obtain ⟨gz7, hrun⟩ := gd_inv hrun
      refine va_iald hx hb hK hP 1 1 rfl rfl gz7 dL_rest_37 ?_
      refine lv_iadd hx hb dL_rest_38 ?_
      obtain ⟨t8, et8, hrun⟩ := bd_inv hrun
      have hpm : List.Perm ([(h_a1, .inl (k_cI G, 7, .inl t5.1)), (h_a2, .inl (k_cI G, 21, .inl w_a2))] ++ w6) ([(h_a2, .inl (k_cI G, 21, .inl w_a2))] ++ ([(h_a1, .inl (k_cI G, 7, .inl t5.1))] ++ w6)) := (List.Perm.swap _ _ _)
      have hP9 := k_permP hP hpm
      have hD9 := k_permD hD hpm
      refine lw_callSv (wr := [(h_a2, .inl (k_cI G, 21, .inl w_a2))]) (wc := ([(h_a1, .inl (k_cI G, 7, .inl t5.1))] ++ w6)) (rest := []) C0 (c_L_put hXW et8 H.size) (va_cwS 3 hts gL_rest_L_put rfl rfl rfl e_L_put.2 ⟨Nat.le_of_ble_eq_true rfl, Nat.le_of_ble_eq_true rfl⟩) hP9 hD9 hS rfl hl.1 rfl (Nat.le_of_ble_eq_true rfl) dL_rest_39 ⟨Nat.le_of_ble_eq_true rfl, Nat.le_of_ble_eq_true rfl⟩ (fun u9 H locs hu9 hP hD hS => ?_)
      obtain ⟨w9, rfl, hXW⟩ := hu9
      clear hpm hP9 hD9
      have hpm : List.Perm ([(h_a2, .inl (k_cI G, 21, .inl w_a2))] ++ ([(h_a1, .inl (k_cI G, 7, .inl t8.1))] ++ w9)) ([(h_a1, .inl (k_cI G, 7, .inl t8.1)), (h_a2, .inl (k_cI G, 21, .inl w_a2))] ++ w9) := (List.Perm.swap _ _ _)
      have hP : va_P G.1 vwCl ([(h_a1, .inl (k_cI G, 7, .inl t8.1)), (h_a2, .inl (k_cI G, 21, .inl w_a2))] ++ w9) H := k_permP hP hpm
      have hD : va_D A ([(h_a1, .inl (k_cI G, 7, .inl t8.1)), (h_a2, .inl (k_cI G, 21, .inl w_a2))] ++ w9) := k_permD hD hpm
      clear hpm
      clear et8
      refine lv_aload_n hx hb dL_rest_42 rfl (lv_at hl 0 rfl) ?_
      refine lv_aload_n hx hb dL_rest_43 rfl (lv_at hl 1 rfl) ?_
      refine lv_bipush (v := 32) hx hb dL_rest_44 (by decide) ?_
      obtain ⟨t10, et10, hrun⟩ := bd_inv hrun
      have hpm : List.Perm ([(h_a1, .inl (k_cI G, 7, .inl t8.1)), (h_a2, .inl (k_cI G, 21, .inl w_a2))] ++ w9) ([(h_a2, .inl (k_cI G, 21, .inl w_a2))] ++ ([(h_a1, .inl (k_cI G, 7, .inl t8.1))] ++ w9)) := (List.Perm.swap _ _ _)
      have hP9 := k_permP hP hpm
      have hD9 := k_permD hD hpm
      refine lw_callSv (wr := [(h_a2, .inl (k_cI G, 21, .inl w_a2))]) (wc := ([(h_a1, .inl (k_cI G, 7, .inl t8.1))] ++ w9)) (rest := []) C0 (c_L_put hXW et10 H.size) (va_cwS 3 hts gL_rest_L_put rfl rfl rfl e_L_put.2 ⟨Nat.le_of_ble_eq_true rfl, Nat.le_of_ble_eq_true rfl⟩) hP9 hD9 hS rfl hl.1 rfl (Nat.le_of_ble_eq_true rfl) dL_rest_46 ⟨Nat.le_of_ble_eq_true rfl, Nat.le_of_ble_eq_true rfl⟩ (fun u9 H locs hu9 hP hD hS => ?_)
      obtain ⟨w11, rfl, hXW⟩ := hu9
      clear hpm hP9 hD9
      have hpm : List.Perm ([(h_a2, .inl (k_cI G, 21, .inl w_a2))] ++ ([(h_a1, .inl (k_cI G, 7, .inl t10.1))] ++ w11)) ([(h_a1, .inl (k_cI G, 7, .inl t10.1)), (h_a2, .inl (k_cI G, 21, .inl w_a2))] ++ w11) := (List.Perm.swap _ _ _)
      have hP : va_P G.1 vwCl ([(h_a1, .inl (k_cI G, 7, .inl t10.1)), (h_a2, .inl (k_cI G, 21, .inl w_a2))] ++ w11) H := k_permP hP hpm
      have hD : va_D A ([(h_a1, .inl (k_cI G, 7, .inl t10.1)), (h_a2, .inl (k_cI G, 21, .inl w_a2))] ++ w11) := k_permD hD hpm
      clear hpm
      clear et10
      refine lv_aload_n hx hb dL_rest_49 rfl (lv_at hl 0 rfl) ?_
      refine lv_aload_n hx hb dL_rest_50 rfl (lv_at hl 1 rfl) ?_
      refine lv_aload_n hx hb dL_rest_51 rfl (lv_at hl 2 rfl) ?_
      refine lv_bipush (v := 11) hx hb dL_rest_52 (by decide) ?_
      refine lv_iconst (v := 2) hx hb dL_rest_54 (by decide) ?_
      refine lv_iload_n hx hb dL_rest_55 rfl (lv_at hl 3 rfl) ?_
      refine lv_imul hx hb dL_rest_56 ?_
      refine lv_iadd hx hb dL_rest_57 ?_
      obtain ⟨gz12, hrun⟩ := gd_inv hrun
      refine va_iald hx hb hK hP 1 1 rfl rfl gz12 dL_rest_58 ?_
      obtain ⟨t13, et13, hrun⟩ := bd_inv hrun
      have hpm : List.Perm ([(h_a1, .inl (k_cI G, 7, .inl t10.1)), (h_a2, .inl (k_cI G, 21, .inl w_a2))] ++ w11) ([(h_a2, .inl (k_cI G, 21, .inl w_a2))] ++ ([(h_a1, .inl (k_cI G, 7, .inl t10.1))] ++ w11)) := (List.Perm.swap _ _ _)
      have hP9 := k_permP hP hpm
      have hD9 := k_permD hD hpm
      refine lw_callSv (wr := [(h_a2, .inl (k_cI G, 21, .inl w_a2))]) (wc := ([(h_a1, .inl (k_cI G, 7, .inl t10.1))] ++ w11)) (rest := []) C0 (c_L_number hXW et13 H.size) (va_cwS 3 hts gL_rest_L_number rfl rfl rfl e_L_number.2 ⟨Nat.le_of_ble_eq_true rfl, Nat.le_of_ble_eq_true rfl⟩) hP9 hD9 hS rfl hl.1 rfl (Nat.le_of_ble_eq_true rfl) dL_rest_59 ⟨Nat.le_of_ble_eq_true rfl, Nat.le_of_ble_eq_true rfl⟩ (fun u9 H locs hu9 hP hD hS => ?_)
      obtain ⟨w14, rfl, hXW⟩ := hu9
      clear hpm hP9 hD9
      have hpm : List.Perm ([(h_a2, .inl (k_cI G, 21, .inl w_a2))] ++ ([(h_a1, .inl (k_cI G, 7, .inl t13.1))] ++ w14)) ([(h_a1, .inl (k_cI G, 7, .inl t13.1)), (h_a2, .inl (k_cI G, 21, .inl w_a2))] ++ w14) := (List.Perm.swap _ _ _)
      have hP : va_P G.1 vwCl ([(h_a1, .inl (k_cI G, 7, .inl t13.1)), (h_a2, .inl (k_cI G, 21, .inl w_a2))] ++ w14) H := k_permP hP hpm
      have hD : va_D A ([(h_a1, .inl (k_cI G, 7, .inl t13.1)), (h_a2, .inl (k_cI G, 21, .inl w_a2))] ++ w14) := k_permD hD hpm
      clear hpm
      clear et13
      refine lv_iinc (v := x3 + 1) (lv' := [(3, .int (x3 + 1)), (0, .ref h_o), (1, .ref h_a1), (2, .ref h_a2)]) hx hb dL_rest_62 hl (k := 3) rfl rfl (by decide) rfl (fun ls hl => ?_)
      refine lv_goto (tgt := 2) hx hb dL_rest_65 (by decide) ?_
      exact ih w14 (x3 + 1) t13.1 w_a2 t13.2 _ _ _ hXW hP hD hS (lv_sub hl [1, 2, 3, 0] rfl) hrun
set_option maxHeartbeats 4000000 in
set_option maxRecDepth 100000 in
theorem c_L_rest {l : Launch} {G : k_G} {h_a1 h_a2 h_o : Nat} {w_a1 : Nat → Int32} {w_a2 : Nat → Int32} {σ : k_SB} {w : va_W} {out : Int32 × (Nat → Int32) × k_SB} (hXW : XW G h_o σ w) (hrun : f_L_rest w_a1 w_a2 σ = some out) (sz : Nat) : k_Di l G yL_rest wsL_rest rm_L_rest [.ref h_o, .ref h_a1, .ref h_a2] ([(h_a1, .inl (k_cI G, 7, .inl w_a1)), (h_a2, .inl (k_cI G, 21, .inl w_a2))] ++ w) sz out.1 (fun u9 : va_W => ∃ w9, u9 = [(h_a1, .inl (k_cI G, 7, .inl out.2.1)), (h_a2, .inl (k_cI G, 21, .inl w_a2))] ++ w9 ∧ XW G h_o out.2.2 w9) 0 0 := by
  refine k_of (cc := cL_rest) (nL := 4) (ret := some .boolean) (own := RL) (nm := "rest") (by decide) rfl rfl rfl rfl ?_
  intro p e s m args below meth c ls hsz C0 hP hD hS hl
  have hl : lv_has ls 4 [(0, .ref h_o), (1, .ref h_a1), (2, .ref h_a2)] := hl
  generalize hH : s.heap = H at hP
  have hS : va_S (va_A ([(h_a1, .inl (k_cI G, 7, .inl w_a1)), (h_a2, .inl (k_cI G, 21, .inl w_a2))] ++ w) sz) s.heap H [] := by rw [← hH]; exact hS
  clear hH
  generalize va_A ([(h_a1, .inl (k_cI G, 7, .inl w_a1)), (h_a2, .inl (k_cI G, 21, .inl w_a2))] ++ w) sz = A at C0 hD hS ⊢
  have hx := C0.1
  have hb := C0.2.1
  have hts := C0.2.2.2.1
  have hown := C0.2.2.2.2.1
  have hK := C0.2.2.2.2.2.2.2.2.1.1
  have hNW := C0.2.2.2.2.2.2.2.2.1.2.1
  have hSF := C0.2.2.2.2.2.2.2.2.1.2.2
  rw [f_L_rest] at hrun
  refine lv_iconst (v := 0) hx hb dL_rest_0 (by decide) ?_
  refine lv_istore_n (lv' := [(3, .int (0 : Int32)), (0, .ref h_o), (1, .ref h_a1), (2, .ref h_a2)]) hx hb dL_rest_1 rfl hl (by decide) rfl (fun ls hl => ?_)
  exact t_L_rest_2 C0 kFU w (0 : Int32) w_a1 w_a2 σ _ _ _ hXW hP hD hS (lv_sub hl [1, 2, 3, 0] rfl) hrun
theorem u_L_told_1 : (Cond.constantLong RL 29 (7809631120267764082)) ∈ wsL_told := List.mem_of_getElem? (i := 1) (by decide +kernel)
theorem u_L_told_2 : (Cond.constantLong RL 35 (32)) ∈ wsL_told := List.mem_of_getElem? (i := 2) (by decide +kernel)
theorem u_L_told_3 : (Cond.constantLong RL 40 (2338324109281092640)) ∈ wsL_told := List.mem_of_getElem? (i := 3) (by decide +kernel)
theorem u_L_told_4 : (Cond.constantLong RL 42 (9135191049266208)) ∈ wsL_told := List.mem_of_getElem? (i := 4) (by decide +kernel)
theorem u_L_told_5 : (Cond.constantLong RL 44 (2334960754885945376)) ∈ wsL_told := List.mem_of_getElem? (i := 5) (by decide +kernel)
theorem u_L_told_6 : (Cond.constantLong RL 49 (4283895632188088435)) ∈ wsL_told := List.mem_of_getElem? (i := 6) (by decide +kernel)
abbrev rm_L_told : Room := { frames := 13, cells := 0, slots := 0, locals := 285 }
theorem e_L_told : yL_told.cls = RL ∧ yL_told.cls ≠ "java/lang/invoke/MethodHandle" ∧ yL_told.cls ≠ "java/lang/invoke/VarHandle" ∧ (parseMethodDescriptor yL_told.desc).map (fun d => d.parameters.length) = some 6 := by decide +kernel
set_option maxHeartbeats 4000000 in
set_option maxRecDepth 100000 in
theorem t_L_told_580 {l : Launch} {G : k_G} {p : Program} {e : Env} {s : State} {m : MethodId} {args : Array Value} {below : List Frame} {meth : Method} {c : Code} {A : Nat → Prop} {h_a1 h_a4 h_a5 h_o : Nat} {out : Int32 × (Nat → Int32) × (Nat → Int32) × (Nat → Int32) × k_SB} (C0 : k_C G p s m args meth c A cL_told RL wsL_told 9 (some .boolean) "told") (k500 : Int32 → (Nat → Int32) → (Nat → Int32) → (Nat → Int32) → k_SB → Option (Int32 × (Nat → Int32) × (Nat → Int32) × (Nat → Int32) × k_SB)) (hk500 : ∀ (w : va_W) (x7 : Int32) (w_a1 : Nat → Int32) (w_a4 : Nat → Int32) (w_a5 : Nat → Int32) (σ : k_SB) (H : Heap) (locs : List Loc) (ls : Array Slot), XW G h_o σ w → va_P G.1 vwCl ([(h_a1, .inl (k_cI G, 7, .inl w_a1)), (h_a4, .inl (k_cI G, 21, .inl w_a4)), (h_a5, .inl (k_cI G, 4, .inl w_a5))] ++ w) H → va_D A ([(h_a1, .inl (k_cI G, 7, .inl w_a1)), (h_a4, .inl (k_cI G, 21, .inl w_a4)), (h_a5, .inl (k_cI G, 4, .inl w_a5))] ++ w) → va_S A s.heap H locs → lv_has ls 9 [(0, .ref h_o), (1, .ref h_a1), (4, .ref h_a4), (7, .int x7)] → k500 x7 w_a1 w_a4 w_a5 σ = some out → W p l e rm_L_told s m args below meth c H locs 0 0 (MQ below (va_Qi (fun r (u9 : va_W) => r = out.1 ∧ (fun u9 : va_W => ∃ w9, u9 = [(h_a1, .inl (k_cI G, 7, .inl out.2.1)), (h_a4, .inl (k_cI G, 21, .inl out.2.2.1)), (h_a5, .inl (k_cI G, 4, .inl out.2.2.2.1))] ++ w9 ∧ XW G h_o out.2.2.2.2 w9) u9) (fun u9 t => k_PB G A u9 t) A) args s 0 0 A) (F0 m 500 ls [])) (k547 : Int32 → Int32 → (Nat → Int32) → (Nat → Int32) → (Nat → Int32) → k_SB → Option (Int32 × (Nat → Int32) × (Nat → Int32) × (Nat → Int32) × k_SB)) (hk547 : ∀ (w : va_W) (x7 : Int32) (x8 : Int32) (w_a1 : Nat → Int32) (w_a4 : Nat → Int32) (w_a5 : Nat → Int32) (σ : k_SB) (H : Heap) (locs : List Loc) (ls : Array Slot), XW G h_o σ w → va_P G.1 vwCl ([(h_a1, .inl (k_cI G, 7, .inl w_a1)), (h_a4, .inl (k_cI G, 21, .inl w_a4)), (h_a5, .inl (k_cI G, 4, .inl w_a5))] ++ w) H → va_D A ([(h_a1, .inl (k_cI G, 7, .inl w_a1)), (h_a4, .inl (k_cI G, 21, .inl w_a4)), (h_a5, .inl (k_cI G, 4, .inl w_a5))] ++ w) → va_S A s.heap H locs → lv_has ls 9 [(0, .ref h_o), (1, .ref h_a1), (4, .ref h_a4), (7, .int x7), (8, .int x8)] → k547 x7 x8 w_a1 w_a4 w_a5 σ = some out → W p l e rm_L_told s m args below meth c H locs 0 0 (MQ below (va_Qi (fun r (u9 : va_W) => r = out.1 ∧ (fun u9 : va_W => ∃ w9, u9 = [(h_a1, .inl (k_cI G, 7, .inl out.2.1)), (h_a4, .inl (k_cI G, 21, .inl out.2.2.1)), (h_a5, .inl (k_cI G, 4, .inl out.2.2.2.1))] ++ w9 ∧ XW G h_o out.2.2.2.2 w9) u9) (fun u9 t => k_PB G A u9 t) A) args s 0 0 A) (F0 m 547 ls [])) : ∀ (w : va_W) (x7 : Int32) (x8 : Int32) (s2 : Int32) (w_a1 : Nat → Int32) (w_a4 : Nat → Int32) (w_a5 : Nat → Int32) (σ : k_SB) (H : Heap) (locs : List Loc) (ls : Array Slot), XW G h_o σ w → va_P G.1 vwCl ([(h_a1, .inl (k_cI G, 7, .inl w_a1)), (h_a4, .inl (k_cI G, 21, .inl w_a4)), (h_a5, .inl (k_cI G, 4, .inl w_a5))] ++ w) H → va_D A ([(h_a1, .inl (k_cI G, 7, .inl w_a1)), (h_a4, .inl (k_cI G, 21, .inl w_a4)), (h_a5, .inl (k_cI G, 4, .inl w_a5))] ++ w) → va_S A s.heap H locs → lv_has ls 9 [(0, .ref h_o), (1, .ref h_a1), (4, .ref h_a4), (7, .int x7), (8, .int x8)] → f_L_told_580 (k_xL G) (k_xs G) k500 k547 x7 x8 s2 w_a1 w_a4 w_a5 σ = some out → W p l e rm_L_told s m args below meth c H locs 0 0 (MQ below (va_Qi (fun r (u9 : va_W) => r = out.1 ∧ (fun u9 : va_W => ∃ w9, u9 = [(h_a1, .inl (k_cI G, 7, .inl out.2.1)), (h_a4, .inl (k_cI G, 21, .inl out.2.2.1)), (h_a5, .inl (k_cI G, 4, .inl out.2.2.2.1))] ++ w9 ∧ XW G h_o out.2.2.2.2 w9) u9) (fun u9 t => k_PB G A u9 t) A) args s 0 0 A) (F0 m 580 ls [.int s2, .ref h_a1, .ref h_o]) := by
  have hx := C0.1
  have hb := C0.2.1
  have hts := C0.2.2.2.1
  have hown := C0.2.2.2.2.1
  have hK := C0.2.2.2.2.2.2.2.2.1.1
  have hNW := C0.2.2.2.2.2.2.2.2.1.2.1
  have hSF := C0.2.2.2.2.2.2.2.2.1.2.2
  intro w x7 x8 s2 w_a1 w_a4 w_a5 σ H locs ls hXW hP hD hS hl hrun
  rw [f_L_told_580] at hrun
  obtain ⟨t1, et1, hrun⟩ := bd_inv hrun
  have hpm : List.Perm ([(h_a1, .inl (k_cI G, 7, .inl w_a1)), (h_a4, .inl (k_cI G, 21, .inl w_a4)), (h_a5, .inl (k_cI G, 4, .inl w_a5))] ++ w) ([(h_a4, .inl (k_cI G, 21, .inl w_a4)), (h_a5, .inl (k_cI G, 4, .inl w_a5))] ++ ([(h_a1, .inl (k_cI G, 7, .inl w_a1))] ++ w)) := (List.Perm.trans (List.Perm.swap _ _ _) (List.Perm.cons _ (List.Perm.swap _ _ _)))
  have hP9 := k_permP hP hpm
  have hD9 := k_permD hD hpm
  refine lw_callSv (wr := [(h_a4, .inl (k_cI G, 21, .inl w_a4)), (h_a5, .inl (k_cI G, 4, .inl w_a5))]) (wc := ([(h_a1, .inl (k_cI G, 7, .inl w_a1))] ++ w)) (rest := []) C0 (c_L_put hXW et1 H.size) (va_cwS 3 hts gL_told_L_put rfl rfl rfl e_L_put.2 ⟨Nat.le_of_ble_eq_true rfl, Nat.le_of_ble_eq_true rfl⟩) hP9 hD9 hS rfl hl.1 rfl (Nat.le_of_ble_eq_true rfl) dL_told_580 ⟨Nat.le_of_ble_eq_true rfl, Nat.le_of_ble_eq_true rfl⟩ (fun u9 H locs hu9 hP hD hS => ?_)
  obtain ⟨w2, rfl, hXW⟩ := hu9
  clear hpm hP9 hD9
  have hpm : List.Perm ([(h_a4, .inl (k_cI G, 21, .inl w_a4)), (h_a5, .inl (k_cI G, 4, .inl w_a5))] ++ ([(h_a1, .inl (k_cI G, 7, .inl t1.1))] ++ w2)) ([(h_a1, .inl (k_cI G, 7, .inl t1.1)), (h_a4, .inl (k_cI G, 21, .inl w_a4)), (h_a5, .inl (k_cI G, 4, .inl w_a5))] ++ w2) := (List.Perm.trans (List.Perm.cons _ (List.Perm.swap _ _ _)) (List.Perm.swap _ _ _))
  have hP : va_P G.1 vwCl ([(h_a1, .inl (k_cI G, 7, .inl t1.1)), (h_a4, .inl (k_cI G, 21, .inl w_a4)), (h_a5, .inl (k_cI G, 4, .inl w_a5))] ++ w2) H := k_permP hP hpm
  have hD : va_D A ([(h_a1, .inl (k_cI G, 7, .inl t1.1)), (h_a4, .inl (k_cI G, 21, .inl w_a4)), (h_a5, .inl (k_cI G, 4, .inl w_a5))] ++ w2) := k_permD hD hpm
  clear hpm
  clear et1
  refine lv_iinc (v := x8 + (-1)) (lv' := [(8, .int (x8 + (-1))), (0, .ref h_o), (1, .ref h_a1), (4, .ref h_a4), (7, .int x7)]) hx hb dL_told_583 hl (k := 4) rfl rfl (by decide) rfl (fun ls hl => ?_)
  refine lv_goto (tgt := 547) hx hb dL_told_586 (by decide) ?_
  exact hk547 w2 x7 (x8 + (-1)) t1.1 w_a4 w_a5 t1.2 _ _ _ hXW hP hD hS (lv_sub hl [1, 2, 3, 4, 0] rfl) hrun
set_option maxHeartbeats 4000000 in
set_option maxRecDepth 100000 in
theorem t_L_told_547 {l : Launch} {G : k_G} {p : Program} {e : Env} {s : State} {m : MethodId} {args : Array Value} {below : List Frame} {meth : Method} {c : Code} {A : Nat → Prop} {h_a1 h_a4 h_a5 h_o : Nat} {out : Int32 × (Nat → Int32) × (Nat → Int32) × (Nat → Int32) × k_SB} (C0 : k_C G p s m args meth c A cL_told RL wsL_told 9 (some .boolean) "told") (k500 : Int32 → (Nat → Int32) → (Nat → Int32) → (Nat → Int32) → k_SB → Option (Int32 × (Nat → Int32) × (Nat → Int32) × (Nat → Int32) × k_SB)) (hk500 : ∀ (w : va_W) (x7 : Int32) (w_a1 : Nat → Int32) (w_a4 : Nat → Int32) (w_a5 : Nat → Int32) (σ : k_SB) (H : Heap) (locs : List Loc) (ls : Array Slot), XW G h_o σ w → va_P G.1 vwCl ([(h_a1, .inl (k_cI G, 7, .inl w_a1)), (h_a4, .inl (k_cI G, 21, .inl w_a4)), (h_a5, .inl (k_cI G, 4, .inl w_a5))] ++ w) H → va_D A ([(h_a1, .inl (k_cI G, 7, .inl w_a1)), (h_a4, .inl (k_cI G, 21, .inl w_a4)), (h_a5, .inl (k_cI G, 4, .inl w_a5))] ++ w) → va_S A s.heap H locs → lv_has ls 9 [(0, .ref h_o), (1, .ref h_a1), (4, .ref h_a4), (7, .int x7)] → k500 x7 w_a1 w_a4 w_a5 σ = some out → W p l e rm_L_told s m args below meth c H locs 0 0 (MQ below (va_Qi (fun r (u9 : va_W) => r = out.1 ∧ (fun u9 : va_W => ∃ w9, u9 = [(h_a1, .inl (k_cI G, 7, .inl out.2.1)), (h_a4, .inl (k_cI G, 21, .inl out.2.2.1)), (h_a5, .inl (k_cI G, 4, .inl out.2.2.2.1))] ++ w9 ∧ XW G h_o out.2.2.2.2 w9) u9) (fun u9 t => k_PB G A u9 t) A) args s 0 0 A) (F0 m 500 ls [])) : ∀ (n : Nat) (w : va_W) (x7 : Int32) (x8 : Int32) (w_a1 : Nat → Int32) (w_a4 : Nat → Int32) (w_a5 : Nat → Int32) (σ : k_SB) (H : Heap) (locs : List Loc) (ls : Array Slot), XW G h_o σ w → va_P G.1 vwCl ([(h_a1, .inl (k_cI G, 7, .inl w_a1)), (h_a4, .inl (k_cI G, 21, .inl w_a4)), (h_a5, .inl (k_cI G, 4, .inl w_a5))] ++ w) H → va_D A ([(h_a1, .inl (k_cI G, 7, .inl w_a1)), (h_a4, .inl (k_cI G, 21, .inl w_a4)), (h_a5, .inl (k_cI G, 4, .inl w_a5))] ++ w) → va_S A s.heap H locs → lv_has ls 9 [(0, .ref h_o), (1, .ref h_a1), (4, .ref h_a4), (7, .int x7), (8, .int x8)] → f_L_told_547 (k_xL G) (k_xs G) k500 n x7 x8 w_a1 w_a4 w_a5 σ = some out → W p l e rm_L_told s m args below meth c H locs 0 0 (MQ below (va_Qi (fun r (u9 : va_W) => r = out.1 ∧ (fun u9 : va_W => ∃ w9, u9 = [(h_a1, .inl (k_cI G, 7, .inl out.2.1)), (h_a4, .inl (k_cI G, 21, .inl out.2.2.1)), (h_a5, .inl (k_cI G, 4, .inl out.2.2.2.1))] ++ w9 ∧ XW G h_o out.2.2.2.2 w9) u9) (fun u9 t => k_PB G A u9 t) A) args s 0 0 A) (F0 m 547 ls []) := by
  have hx := C0.1
  have hb := C0.2.1
  have hts := C0.2.2.2.1
  have hown := C0.2.2.2.2.1
  have hK := C0.2.2.2.2.2.2.2.2.1.1
  have hNW := C0.2.2.2.2.2.2.2.2.1.2.1
  have hSF := C0.2.2.2.2.2.2.2.2.1.2.2
  intro n
  induction n with
  | zero =>
    intro w x7 x8 w_a1 w_a4 w_a5 σ H locs ls hXW hP hD hS hl hrun
    rw [f_L_told_547] at hrun
    cases hrun
  | succ n ih =>
    intro w x7 x8 w_a1 w_a4 w_a5 σ H locs ls hXW hP hD hS hl hrun
    rw [f_L_told_547] at hrun
    refine lv_iload hx hb dL_told_547 (lv_at hl 4 rfl) ?_
    refine lv_if_lt (tgt := 589) hx hb dL_told_549 (by decide) (fun q1 => ?_) (fun q1 => ?_)
    · replace hrun := if_t q1 hrun
      refine lv_iinc (v := x7 + 1) (lv' := [(7, .int (x7 + 1)), (0, .ref h_o), (1, .ref h_a1), (4, .ref h_a4), (8, .int x8)]) hx hb dL_told_589 hl (k := 3) rfl rfl (by decide) rfl (fun ls hl => ?_)
      refine lv_goto (tgt := 500) hx hb dL_told_592 (by decide) ?_
      exact hk500 w (x7 + 1) w_a1 w_a4 w_a5 σ _ _ _ hXW hP hD hS (lv_sub hl [1, 2, 3, 0] rfl) hrun
    · replace hrun := if_f q1 hrun
      refine lv_aload_n hx hb dL_told_552 rfl (lv_at hl 0 rfl) ?_
      refine lv_aload_n hx hb dL_told_553 rfl (lv_at hl 1 rfl) ?_
      refine lv_aload hx hb dL_told_554 (lv_at hl 2 rfl) ?_
      refine lv_bipush (v := 6) hx hb dL_told_556 (by decide) ?_
      refine lv_iconst (v := 2) hx hb dL_told_558 (by decide) ?_
      refine lv_iload hx hb dL_told_559 (lv_at hl 3 rfl) ?_
      refine lv_imul hx hb dL_told_561 ?_
      refine lv_iadd hx hb dL_told_562 ?_
      obtain ⟨gz2, hrun⟩ := gd_inv hrun
      refine va_iald hx hb hK hP 1 1 rfl rfl gz2 dL_told_563 ?_
      refine lv_iload hx hb dL_told_564 (lv_at hl 4 rfl) ?_
      refine lv_ishr hx hb dL_told_566 ?_
      refine lv_iconst (v := 1) hx hb dL_told_567 (by decide) ?_
      refine lv_iand hx hb dL_told_568 ?_
      refine lv_iconst (v := 1) hx hb dL_told_569 (by decide) ?_
      refine lv_icmp_ne (tgt := 578) hx hb dL_told_570 (by decide) (fun q3 => ?_) (fun q3 => ?_)
      · replace hrun := if_f q3 hrun
        refine lv_bipush (v := 100) hx hb dL_told_578 (by decide) ?_
        exact t_L_told_580 C0 k500 hk500 (fun x7 x8 w_a1 w_a4 w_a5 σ => f_L_told_547 (k_xL G) (k_xs G) k500 n x7 x8 w_a1 w_a4 w_a5 σ) ih w x7 x8 (100 : Int32) w_a1 w_a4 w_a5 σ _ _ _ hXW hP hD hS hl hrun
      · replace hrun := if_t q3 hrun
        refine lv_bipush (v := 117) hx hb dL_told_573 (by decide) ?_
        refine lv_goto (tgt := 580) hx hb dL_told_575 (by decide) ?_
        exact t_L_told_580 C0 k500 hk500 (fun x7 x8 w_a1 w_a4 w_a5 σ => f_L_told_547 (k_xL G) (k_xs G) k500 n x7 x8 w_a1 w_a4 w_a5 σ) ih w x7 x8 (117 : Int32) w_a1 w_a4 w_a5 σ _ _ _ hXW hP hD hS hl hrun
set_option maxHeartbeats 4000000 in
set_option maxRecDepth 100000 in
theorem t_L_told_500 {l : Launch} {G : k_G} {p : Program} {e : Env} {s : State} {m : MethodId} {args : Array Value} {below : List Frame} {meth : Method} {c : Code} {A : Nat → Prop} {h_a1 h_a4 h_a5 h_o : Nat} {out : Int32 × (Nat → Int32) × (Nat → Int32) × (Nat → Int32) × k_SB} (C0 : k_C G p s m args meth c A cL_told RL wsL_told 9 (some .boolean) "told") : ∀ (n : Nat) (w : va_W) (x7 : Int32) (w_a1 : Nat → Int32) (w_a4 : Nat → Int32) (w_a5 : Nat → Int32) (σ : k_SB) (H : Heap) (locs : List Loc) (ls : Array Slot), XW G h_o σ w → va_P G.1 vwCl ([(h_a1, .inl (k_cI G, 7, .inl w_a1)), (h_a4, .inl (k_cI G, 21, .inl w_a4)), (h_a5, .inl (k_cI G, 4, .inl w_a5))] ++ w) H → va_D A ([(h_a1, .inl (k_cI G, 7, .inl w_a1)), (h_a4, .inl (k_cI G, 21, .inl w_a4)), (h_a5, .inl (k_cI G, 4, .inl w_a5))] ++ w) → va_S A s.heap H locs → lv_has ls 9 [(0, .ref h_o), (1, .ref h_a1), (4, .ref h_a4), (7, .int x7)] → f_L_told_500 (k_xL G) (k_xs G) n x7 w_a1 w_a4 w_a5 σ = some out → W p l e rm_L_told s m args below meth c H locs 0 0 (MQ below (va_Qi (fun r (u9 : va_W) => r = out.1 ∧ (fun u9 : va_W => ∃ w9, u9 = [(h_a1, .inl (k_cI G, 7, .inl out.2.1)), (h_a4, .inl (k_cI G, 21, .inl out.2.2.1)), (h_a5, .inl (k_cI G, 4, .inl out.2.2.2.1))] ++ w9 ∧ XW G h_o out.2.2.2.2 w9) u9) (fun u9 t => k_PB G A u9 t) A) args s 0 0 A) (F0 m 500 ls []) := by
  have hx := C0.1
  have hb := C0.2.1
  have hts := C0.2.2.2.1
  have hown := C0.2.2.2.2.1
  have hK := C0.2.2.2.2.2.2.2.2.1.1
  have hNW := C0.2.2.2.2.2.2.2.2.1.2.1
  have hSF := C0.2.2.2.2.2.2.2.2.1.2.2
  intro n
  induction n with
  | zero =>
    intro w x7 w_a1 w_a4 w_a5 σ H locs ls hXW hP hD hS hl hrun
    rw [f_L_told_500] at hrun
    cases hrun
  | succ n ih =>
    intro w x7 w_a1 w_a4 w_a5 σ H locs ls hXW hP hD hS hl hrun
    rw [f_L_told_500] at hrun
    refine lv_iload hx hb dL_told_500 (lv_at hl 3 rfl) ?_
    refine lv_aload hx hb dL_told_502 (lv_at hl 2 rfl) ?_
    refine lv_iconst (v := 4) hx hb dL_told_504 (by decide) ?_
    obtain ⟨gz1, hrun⟩ := gd_inv hrun
    refine va_iald hx hb hK hP 1 1 rfl rfl gz1 dL_told_505 ?_
    refine lv_icmp_ge (tgt := 595) hx hb dL_told_506 (by decide) (fun q2 => ?_) (fun q2 => ?_)
    · replace hrun := if_t q2 hrun
      refine lv_aload_n hx hb dL_told_595 rfl (lv_at hl 0 rfl) ?_
      refine lv_aload_n hx hb dL_told_596 rfl (lv_at hl 1 rfl) ?_
      refine lv_aload hx hb dL_told_597 (lv_at hl 2 rfl) ?_
      obtain ⟨t3, et3, hrun⟩ := bd_inv hrun
      have hpm : List.Perm ([(h_a1, .inl (k_cI G, 7, .inl w_a1)), (h_a4, .inl (k_cI G, 21, .inl w_a4)), (h_a5, .inl (k_cI G, 4, .inl w_a5))] ++ w) ([(h_a5, .inl (k_cI G, 4, .inl w_a5))] ++ ([(h_a1, .inl (k_cI G, 7, .inl w_a1)), (h_a4, .inl (k_cI G, 21, .inl w_a4))] ++ w)) := (List.Perm.trans (List.Perm.cons _ (List.Perm.swap _ _ _)) (List.Perm.swap _ _ _))
      have hP9 := k_permP hP hpm
      have hD9 := k_permD hD hpm
      refine lw_callSi (wr := [(h_a5, .inl (k_cI G, 4, .inl w_a5))]) (wc := ([(h_a1, .inl (k_cI G, 7, .inl w_a1)), (h_a4, .inl (k_cI G, 21, .inl w_a4))] ++ w)) (rest := []) C0 (c_L_rest hXW et3 H.size) (va_cwS 3 hts gL_told_L_rest rfl rfl rfl e_L_rest.2 ⟨Nat.le_of_ble_eq_true rfl, Nat.le_of_ble_eq_true rfl⟩) hP9 hD9 hS rfl hl.1 rfl (Nat.le_of_ble_eq_true rfl) dL_told_599 ⟨Nat.le_of_ble_eq_true rfl, Nat.le_of_ble_eq_true rfl⟩ (fun u9 H locs hu9 hP hD hS => ?_)
      obtain ⟨w4, rfl, hXW⟩ := hu9
      clear hpm hP9 hD9
      have hpm : List.Perm ([(h_a5, .inl (k_cI G, 4, .inl w_a5))] ++ ([(h_a1, .inl (k_cI G, 7, .inl t3.2.1)), (h_a4, .inl (k_cI G, 21, .inl w_a4))] ++ w4)) ([(h_a1, .inl (k_cI G, 7, .inl t3.2.1)), (h_a4, .inl (k_cI G, 21, .inl w_a4)), (h_a5, .inl (k_cI G, 4, .inl w_a5))] ++ w4) := (List.Perm.trans (List.Perm.swap _ _ _) (List.Perm.cons _ (List.Perm.swap _ _ _)))
      have hP : va_P G.1 vwCl ([(h_a1, .inl (k_cI G, 7, .inl t3.2.1)), (h_a4, .inl (k_cI G, 21, .inl w_a4)), (h_a5, .inl (k_cI G, 4, .inl w_a5))] ++ w4) H := k_permP hP hpm
      have hD : va_D A ([(h_a1, .inl (k_cI G, 7, .inl t3.2.1)), (h_a4, .inl (k_cI G, 21, .inl w_a4)), (h_a5, .inl (k_cI G, 4, .inl w_a5))] ++ w4) := k_permD hD hpm
      clear hpm
      clear et3
      obtain ⟨gz5, hrun⟩ := gd_inv hrun
      obtain rfl := Option.some.inj hrun
      exact kd_retz C0 hP hD hS ⟨w4, rfl, hXW⟩ rfl (k_nar01 gz5) dL_told_602
    · replace hrun := if_f q2 hrun
      refine lv_aload_n hx hb dL_told_509 rfl (lv_at hl 0 rfl) ?_
      refine lv_aload_n hx hb dL_told_510 rfl (lv_at hl 1 rfl) ?_
      refine lv_ldc2 (v := 4283895632188088435) hx hb hown (hts _ u_L_told_6) dL_told_511 ?_
      obtain ⟨t6, et6, hrun⟩ := bd_inv hrun
      have hpm : List.Perm ([(h_a1, .inl (k_cI G, 7, .inl w_a1)), (h_a4, .inl (k_cI G, 21, .inl w_a4)), (h_a5, .inl (k_cI G, 4, .inl w_a5))] ++ w) ([(h_a4, .inl (k_cI G, 21, .inl w_a4)), (h_a5, .inl (k_cI G, 4, .inl w_a5))] ++ ([(h_a1, .inl (k_cI G, 7, .inl w_a1))] ++ w)) := (List.Perm.trans (List.Perm.swap _ _ _) (List.Perm.cons _ (List.Perm.swap _ _ _)))
      have hP9 := k_permP hP hpm
      have hD9 := k_permD hD hpm
      refine lw_callSv (wr := [(h_a4, .inl (k_cI G, 21, .inl w_a4)), (h_a5, .inl (k_cI G, 4, .inl w_a5))]) (wc := ([(h_a1, .inl (k_cI G, 7, .inl w_a1))] ++ w)) (rest := []) C0 (c_L_say hXW et6 H.size) (va_cwS 3 hts gL_told_L_say rfl rfl rfl e_L_say.2 ⟨Nat.le_of_ble_eq_true rfl, Nat.le_of_ble_eq_true rfl⟩) hP9 hD9 hS rfl hl.1 rfl (Nat.le_of_ble_eq_true rfl) dL_told_514 ⟨Nat.le_of_ble_eq_true rfl, Nat.le_of_ble_eq_true rfl⟩ (fun u9 H locs hu9 hP hD hS => ?_)
      obtain ⟨w7, rfl, hXW⟩ := hu9
      clear hpm hP9 hD9
      have hpm : List.Perm ([(h_a4, .inl (k_cI G, 21, .inl w_a4)), (h_a5, .inl (k_cI G, 4, .inl w_a5))] ++ ([(h_a1, .inl (k_cI G, 7, .inl t6.1))] ++ w7)) ([(h_a1, .inl (k_cI G, 7, .inl t6.1)), (h_a4, .inl (k_cI G, 21, .inl w_a4)), (h_a5, .inl (k_cI G, 4, .inl w_a5))] ++ w7) := (List.Perm.trans (List.Perm.cons _ (List.Perm.swap _ _ _)) (List.Perm.swap _ _ _))
      have hP : va_P G.1 vwCl ([(h_a1, .inl (k_cI G, 7, .inl t6.1)), (h_a4, .inl (k_cI G, 21, .inl w_a4)), (h_a5, .inl (k_cI G, 4, .inl w_a5))] ++ w7) H := k_permP hP hpm
      have hD : va_D A ([(h_a1, .inl (k_cI G, 7, .inl t6.1)), (h_a4, .inl (k_cI G, 21, .inl w_a4)), (h_a5, .inl (k_cI G, 4, .inl w_a5))] ++ w7) := k_permD hD hpm
      clear hpm
      clear et6
      refine lv_aload_n hx hb dL_told_517 rfl (lv_at hl 0 rfl) ?_
      refine lv_aload_n hx hb dL_told_518 rfl (lv_at hl 1 rfl) ?_
      refine lv_bipush (v := 97) hx hb dL_told_519 (by decide) ?_
      refine lv_iload hx hb dL_told_521 (lv_at hl 3 rfl) ?_
      refine lv_iadd hx hb dL_told_523 ?_
      obtain ⟨t8, et8, hrun⟩ := bd_inv hrun
      have hpm : List.Perm ([(h_a1, .inl (k_cI G, 7, .inl t6.1)), (h_a4, .inl (k_cI G, 21, .inl w_a4)), (h_a5, .inl (k_cI G, 4, .inl w_a5))] ++ w7) ([(h_a4, .inl (k_cI G, 21, .inl w_a4)), (h_a5, .inl (k_cI G, 4, .inl w_a5))] ++ ([(h_a1, .inl (k_cI G, 7, .inl t6.1))] ++ w7)) := (List.Perm.trans (List.Perm.swap _ _ _) (List.Perm.cons _ (List.Perm.swap _ _ _)))
      have hP9 := k_permP hP hpm
      have hD9 := k_permD hD hpm
      refine lw_callSv (wr := [(h_a4, .inl (k_cI G, 21, .inl w_a4)), (h_a5, .inl (k_cI G, 4, .inl w_a5))]) (wc := ([(h_a1, .inl (k_cI G, 7, .inl t6.1))] ++ w7)) (rest := []) C0 (c_L_put hXW et8 H.size) (va_cwS 3 hts gL_told_L_put rfl rfl rfl e_L_put.2 ⟨Nat.le_of_ble_eq_true rfl, Nat.le_of_ble_eq_true rfl⟩) hP9 hD9 hS rfl hl.1 rfl (Nat.le_of_ble_eq_true rfl) dL_told_524 ⟨Nat.le_of_ble_eq_true rfl, Nat.le_of_ble_eq_true rfl⟩ (fun u9 H locs hu9 hP hD hS => ?_)
      obtain ⟨w9, rfl, hXW⟩ := hu9
      clear hpm hP9 hD9
      have hpm : List.Perm ([(h_a4, .inl (k_cI G, 21, .inl w_a4)), (h_a5, .inl (k_cI G, 4, .inl w_a5))] ++ ([(h_a1, .inl (k_cI G, 7, .inl t8.1))] ++ w9)) ([(h_a1, .inl (k_cI G, 7, .inl t8.1)), (h_a4, .inl (k_cI G, 21, .inl w_a4)), (h_a5, .inl (k_cI G, 4, .inl w_a5))] ++ w9) := (List.Perm.trans (List.Perm.cons _ (List.Perm.swap _ _ _)) (List.Perm.swap _ _ _))
      have hP : va_P G.1 vwCl ([(h_a1, .inl (k_cI G, 7, .inl t8.1)), (h_a4, .inl (k_cI G, 21, .inl w_a4)), (h_a5, .inl (k_cI G, 4, .inl w_a5))] ++ w9) H := k_permP hP hpm
      have hD : va_D A ([(h_a1, .inl (k_cI G, 7, .inl t8.1)), (h_a4, .inl (k_cI G, 21, .inl w_a4)), (h_a5, .inl (k_cI G, 4, .inl w_a5))] ++ w9) := k_permD hD hpm
      clear hpm
      clear et8
      refine lv_aload_n hx hb dL_told_527 rfl (lv_at hl 0 rfl) ?_
      refine lv_aload_n hx hb dL_told_528 rfl (lv_at hl 1 rfl) ?_
      refine lv_bipush (v := 32) hx hb dL_told_529 (by decide) ?_
      obtain ⟨t10, et10, hrun⟩ := bd_inv hrun
      have hpm : List.Perm ([(h_a1, .inl (k_cI G, 7, .inl t8.1)), (h_a4, .inl (k_cI G, 21, .inl w_a4)), (h_a5, .inl (k_cI G, 4, .inl w_a5))] ++ w9) ([(h_a4, .inl (k_cI G, 21, .inl w_a4)), (h_a5, .inl (k_cI G, 4, .inl w_a5))] ++ ([(h_a1, .inl (k_cI G, 7, .inl t8.1))] ++ w9)) := (List.Perm.trans (List.Perm.swap _ _ _) (List.Perm.cons _ (List.Perm.swap _ _ _)))
      have hP9 := k_permP hP hpm
      have hD9 := k_permD hD hpm
      refine lw_callSv (wr := [(h_a4, .inl (k_cI G, 21, .inl w_a4)), (h_a5, .inl (k_cI G, 4, .inl w_a5))]) (wc := ([(h_a1, .inl (k_cI G, 7, .inl t8.1))] ++ w9)) (rest := []) C0 (c_L_put hXW et10 H.size) (va_cwS 3 hts gL_told_L_put rfl rfl rfl e_L_put.2 ⟨Nat.le_of_ble_eq_true rfl, Nat.le_of_ble_eq_true rfl⟩) hP9 hD9 hS rfl hl.1 rfl (Nat.le_of_ble_eq_true rfl) dL_told_531 ⟨Nat.le_of_ble_eq_true rfl, Nat.le_of_ble_eq_true rfl⟩ (fun u9 H locs hu9 hP hD hS => ?_)
      obtain ⟨w11, rfl, hXW⟩ := hu9
      clear hpm hP9 hD9
      have hpm : List.Perm ([(h_a4, .inl (k_cI G, 21, .inl w_a4)), (h_a5, .inl (k_cI G, 4, .inl w_a5))] ++ ([(h_a1, .inl (k_cI G, 7, .inl t10.1))] ++ w11)) ([(h_a1, .inl (k_cI G, 7, .inl t10.1)), (h_a4, .inl (k_cI G, 21, .inl w_a4)), (h_a5, .inl (k_cI G, 4, .inl w_a5))] ++ w11) := (List.Perm.trans (List.Perm.cons _ (List.Perm.swap _ _ _)) (List.Perm.swap _ _ _))
      have hP : va_P G.1 vwCl ([(h_a1, .inl (k_cI G, 7, .inl t10.1)), (h_a4, .inl (k_cI G, 21, .inl w_a4)), (h_a5, .inl (k_cI G, 4, .inl w_a5))] ++ w11) H := k_permP hP hpm
      have hD : va_D A ([(h_a1, .inl (k_cI G, 7, .inl t10.1)), (h_a4, .inl (k_cI G, 21, .inl w_a4)), (h_a5, .inl (k_cI G, 4, .inl w_a5))] ++ w11) := k_permD hD hpm
      clear hpm
      clear et10
      refine lv_aload hx hb dL_told_534 (lv_at hl 2 rfl) ?_
      refine lv_iconst (v := 5) hx hb dL_told_536 (by decide) ?_
      refine lv_iconst (v := 2) hx hb dL_told_537 (by decide) ?_
      refine lv_iload hx hb dL_told_538 (lv_at hl 3 rfl) ?_
      refine lv_imul hx hb dL_told_540 ?_
      refine lv_iadd hx hb dL_told_541 ?_
      obtain ⟨gz12, hrun⟩ := gd_inv hrun
      refine va_iald hx hb hK hP 1 1 rfl rfl gz12 dL_told_542 ?_
      refine lv_iconst (v := 1) hx hb dL_told_543 (by decide) ?_
      refine lv_isub hx hb dL_told_544 ?_
      obtain ⟨n13, en, hrun⟩ := lt_inv hrun
      refine k_nmi en ?_
      clear en
      refine lv_istore (lv' := [(8, .int n13), (0, .ref h_o), (1, .ref h_a1), (4, .ref h_a4), (7, .int x7)]) hx hb dL_told_545 hl (by decide) rfl (fun ls hl => ?_)
      exact t_L_told_547 C0 (fun x7 w_a1 w_a4 w_a5 σ => f_L_told_500 (k_xL G) (k_xs G) n x7 w_a1 w_a4 w_a5 σ) ih kFU w11 x7 n13 t10.1 w_a4 w_a5 t10.2 _ _ _ hXW hP hD hS (lv_sub hl [1, 2, 3, 4, 0] rfl) hrun
set_option maxHeartbeats 4000000 in
set_option maxRecDepth 100000 in
theorem t_L_told_336 {l : Launch} {G : k_G} {p : Program} {e : Env} {s : State} {m : MethodId} {args : Array Value} {below : List Frame} {meth : Method} {c : Code} {A : Nat → Prop} {h_a1 h_a4 h_a5 h_o : Nat} {out : Int32 × (Nat → Int32) × (Nat → Int32) × (Nat → Int32) × k_SB} (C0 : k_C G p s m args meth c A cL_told RL wsL_told 9 (some .boolean) "told") : ∀ (n : Nat) (w : va_W) (x6 : Int32) (x7 : Int32) (w_a1 : Nat → Int32) (w_a4 : Nat → Int32) (w_a5 : Nat → Int32) (σ : k_SB) (H : Heap) (locs : List Loc) (ls : Array Slot), XW G h_o σ w → va_P G.1 vwCl ([(h_a1, .inl (k_cI G, 7, .inl w_a1)), (h_a4, .inl (k_cI G, 21, .inl w_a4)), (h_a5, .inl (k_cI G, 4, .inl w_a5))] ++ w) H → va_D A ([(h_a1, .inl (k_cI G, 7, .inl w_a1)), (h_a4, .inl (k_cI G, 21, .inl w_a4)), (h_a5, .inl (k_cI G, 4, .inl w_a5))] ++ w) → va_S A s.heap H locs → lv_has ls 9 [(0, .ref h_o), (1, .ref h_a1), (4, .ref h_a4), (6, .int x6), (7, .int x7)] → f_L_told_336 (k_xL G) (k_xs G) n x6 x7 w_a1 w_a4 w_a5 σ = some out → W p l e rm_L_told s m args below meth c H locs 0 0 (MQ below (va_Qi (fun r (u9 : va_W) => r = out.1 ∧ (fun u9 : va_W => ∃ w9, u9 = [(h_a1, .inl (k_cI G, 7, .inl out.2.1)), (h_a4, .inl (k_cI G, 21, .inl out.2.2.1)), (h_a5, .inl (k_cI G, 4, .inl out.2.2.2.1))] ++ w9 ∧ XW G h_o out.2.2.2.2 w9) u9) (fun u9 t => k_PB G A u9 t) A) args s 0 0 A) (F0 m 336 ls []) := by
  have hx := C0.1
  have hb := C0.2.1
  have hts := C0.2.2.2.1
  have hown := C0.2.2.2.2.1
  have hK := C0.2.2.2.2.2.2.2.2.1.1
  have hNW := C0.2.2.2.2.2.2.2.2.1.2.1
  have hSF := C0.2.2.2.2.2.2.2.2.1.2.2
  intro n
  induction n with
  | zero =>
    intro w x6 x7 w_a1 w_a4 w_a5 σ H locs ls hXW hP hD hS hl hrun
    rw [f_L_told_336] at hrun
    cases hrun
  | succ n ih =>
    intro w x6 x7 w_a1 w_a4 w_a5 σ H locs ls hXW hP hD hS hl hrun
    rw [f_L_told_336] at hrun
    refine lv_iload hx hb dL_told_336 (lv_at hl 4 rfl) ?_
    refine lv_iconst (v := 2) hx hb dL_told_338 (by decide) ?_
    refine lv_icmp_ge (tgt := 421) hx hb dL_told_339 (by decide) (fun q1 => ?_) (fun q1 => ?_)
    · replace hrun := if_t q1 hrun
      refine lv_aload_n hx hb dL_told_421 rfl (lv_at hl 0 rfl) ?_
      refine lv_aload_n hx hb dL_told_422 rfl (lv_at hl 1 rfl) ?_
      refine lv_ldc2 (v := 7809631120267764082) hx hb hown (hts _ u_L_told_1) dL_told_423 ?_
      obtain ⟨t2, et2, hrun⟩ := bd_inv hrun
      have hpm : List.Perm ([(h_a1, .inl (k_cI G, 7, .inl w_a1)), (h_a4, .inl (k_cI G, 21, .inl w_a4)), (h_a5, .inl (k_cI G, 4, .inl w_a5))] ++ w) ([(h_a4, .inl (k_cI G, 21, .inl w_a4)), (h_a5, .inl (k_cI G, 4, .inl w_a5))] ++ ([(h_a1, .inl (k_cI G, 7, .inl w_a1))] ++ w)) := (List.Perm.trans (List.Perm.swap _ _ _) (List.Perm.cons _ (List.Perm.swap _ _ _)))
      have hP9 := k_permP hP hpm
      have hD9 := k_permD hD hpm
      refine lw_callSv (wr := [(h_a4, .inl (k_cI G, 21, .inl w_a4)), (h_a5, .inl (k_cI G, 4, .inl w_a5))]) (wc := ([(h_a1, .inl (k_cI G, 7, .inl w_a1))] ++ w)) (rest := []) C0 (c_L_say hXW et2 H.size) (va_cwS 3 hts gL_told_L_say rfl rfl rfl e_L_say.2 ⟨Nat.le_of_ble_eq_true rfl, Nat.le_of_ble_eq_true rfl⟩) hP9 hD9 hS rfl hl.1 rfl (Nat.le_of_ble_eq_true rfl) dL_told_426 ⟨Nat.le_of_ble_eq_true rfl, Nat.le_of_ble_eq_true rfl⟩ (fun u9 H locs hu9 hP hD hS => ?_)
      obtain ⟨w3, rfl, hXW⟩ := hu9
      clear hpm hP9 hD9
      have hpm : List.Perm ([(h_a4, .inl (k_cI G, 21, .inl w_a4)), (h_a5, .inl (k_cI G, 4, .inl w_a5))] ++ ([(h_a1, .inl (k_cI G, 7, .inl t2.1))] ++ w3)) ([(h_a1, .inl (k_cI G, 7, .inl t2.1)), (h_a4, .inl (k_cI G, 21, .inl w_a4)), (h_a5, .inl (k_cI G, 4, .inl w_a5))] ++ w3) := (List.Perm.trans (List.Perm.cons _ (List.Perm.swap _ _ _)) (List.Perm.swap _ _ _))
      have hP : va_P G.1 vwCl ([(h_a1, .inl (k_cI G, 7, .inl t2.1)), (h_a4, .inl (k_cI G, 21, .inl w_a4)), (h_a5, .inl (k_cI G, 4, .inl w_a5))] ++ w3) H := k_permP hP hpm
      have hD : va_D A ([(h_a1, .inl (k_cI G, 7, .inl t2.1)), (h_a4, .inl (k_cI G, 21, .inl w_a4)), (h_a5, .inl (k_cI G, 4, .inl w_a5))] ++ w3) := k_permD hD hpm
      clear hpm
      clear et2
      refine lv_aload_n hx hb dL_told_429 rfl (lv_at hl 0 rfl) ?_
      refine lv_aload_n hx hb dL_told_430 rfl (lv_at hl 1 rfl) ?_
      refine lv_ldc2 (v := 32) hx hb hown (hts _ u_L_told_2) dL_told_431 ?_
      obtain ⟨t4, et4, hrun⟩ := bd_inv hrun
      have hpm : List.Perm ([(h_a1, .inl (k_cI G, 7, .inl t2.1)), (h_a4, .inl (k_cI G, 21, .inl w_a4)), (h_a5, .inl (k_cI G, 4, .inl w_a5))] ++ w3) ([(h_a4, .inl (k_cI G, 21, .inl w_a4)), (h_a5, .inl (k_cI G, 4, .inl w_a5))] ++ ([(h_a1, .inl (k_cI G, 7, .inl t2.1))] ++ w3)) := (List.Perm.trans (List.Perm.swap _ _ _) (List.Perm.cons _ (List.Perm.swap _ _ _)))
      have hP9 := k_permP hP hpm
      have hD9 := k_permD hD hpm
      refine lw_callSv (wr := [(h_a4, .inl (k_cI G, 21, .inl w_a4)), (h_a5, .inl (k_cI G, 4, .inl w_a5))]) (wc := ([(h_a1, .inl (k_cI G, 7, .inl t2.1))] ++ w3)) (rest := []) C0 (c_L_say hXW et4 H.size) (va_cwS 3 hts gL_told_L_say rfl rfl rfl e_L_say.2 ⟨Nat.le_of_ble_eq_true rfl, Nat.le_of_ble_eq_true rfl⟩) hP9 hD9 hS rfl hl.1 rfl (Nat.le_of_ble_eq_true rfl) dL_told_434 ⟨Nat.le_of_ble_eq_true rfl, Nat.le_of_ble_eq_true rfl⟩ (fun u9 H locs hu9 hP hD hS => ?_)
      obtain ⟨w5, rfl, hXW⟩ := hu9
      clear hpm hP9 hD9
      have hpm : List.Perm ([(h_a4, .inl (k_cI G, 21, .inl w_a4)), (h_a5, .inl (k_cI G, 4, .inl w_a5))] ++ ([(h_a1, .inl (k_cI G, 7, .inl t4.1))] ++ w5)) ([(h_a1, .inl (k_cI G, 7, .inl t4.1)), (h_a4, .inl (k_cI G, 21, .inl w_a4)), (h_a5, .inl (k_cI G, 4, .inl w_a5))] ++ w5) := (List.Perm.trans (List.Perm.cons _ (List.Perm.swap _ _ _)) (List.Perm.swap _ _ _))
      have hP : va_P G.1 vwCl ([(h_a1, .inl (k_cI G, 7, .inl t4.1)), (h_a4, .inl (k_cI G, 21, .inl w_a4)), (h_a5, .inl (k_cI G, 4, .inl w_a5))] ++ w5) H := k_permP hP hpm
      have hD : va_D A ([(h_a1, .inl (k_cI G, 7, .inl t4.1)), (h_a4, .inl (k_cI G, 21, .inl w_a4)), (h_a5, .inl (k_cI G, 4, .inl w_a5))] ++ w5) := k_permD hD hpm
      clear hpm
      clear et4
      refine lv_aload_n hx hb dL_told_437 rfl (lv_at hl 0 rfl) ?_
      refine lv_aload_n hx hb dL_told_438 rfl (lv_at hl 1 rfl) ?_
      refine lv_aload hx hb dL_told_439 (lv_at hl 2 rfl) ?_
      refine lv_iconst (v := 0) hx hb dL_told_441 (by decide) ?_
      obtain ⟨gz6, hrun⟩ := gd_inv hrun
      refine va_iald hx hb hK hP 1 1 rfl rfl gz6 dL_told_442 ?_
      obtain ⟨t7, et7, hrun⟩ := bd_inv hrun
      have hpm : List.Perm ([(h_a1, .inl (k_cI G, 7, .inl t4.1)), (h_a4, .inl (k_cI G, 21, .inl w_a4)), (h_a5, .inl (k_cI G, 4, .inl w_a5))] ++ w5) ([(h_a4, .inl (k_cI G, 21, .inl w_a4)), (h_a5, .inl (k_cI G, 4, .inl w_a5))] ++ ([(h_a1, .inl (k_cI G, 7, .inl t4.1))] ++ w5)) := (List.Perm.trans (List.Perm.swap _ _ _) (List.Perm.cons _ (List.Perm.swap _ _ _)))
      have hP9 := k_permP hP hpm
      have hD9 := k_permD hD hpm
      refine lw_callSv (wr := [(h_a4, .inl (k_cI G, 21, .inl w_a4)), (h_a5, .inl (k_cI G, 4, .inl w_a5))]) (wc := ([(h_a1, .inl (k_cI G, 7, .inl t4.1))] ++ w5)) (rest := []) C0 (c_L_below hXW et7 H.size) (va_cwS 3 hts gL_told_L_below rfl rfl rfl e_L_below.2 ⟨Nat.le_of_ble_eq_true rfl, Nat.le_of_ble_eq_true rfl⟩) hP9 hD9 hS rfl hl.1 rfl (Nat.le_of_ble_eq_true rfl) dL_told_443 ⟨Nat.le_of_ble_eq_true rfl, Nat.le_of_ble_eq_true rfl⟩ (fun u9 H locs hu9 hP hD hS => ?_)
      obtain ⟨w8, rfl, hXW⟩ := hu9
      clear hpm hP9 hD9
      have hpm : List.Perm ([(h_a4, .inl (k_cI G, 21, .inl w_a4)), (h_a5, .inl (k_cI G, 4, .inl w_a5))] ++ ([(h_a1, .inl (k_cI G, 7, .inl t7.1))] ++ w8)) ([(h_a1, .inl (k_cI G, 7, .inl t7.1)), (h_a4, .inl (k_cI G, 21, .inl w_a4)), (h_a5, .inl (k_cI G, 4, .inl w_a5))] ++ w8) := (List.Perm.trans (List.Perm.cons _ (List.Perm.swap _ _ _)) (List.Perm.swap _ _ _))
      have hP : va_P G.1 vwCl ([(h_a1, .inl (k_cI G, 7, .inl t7.1)), (h_a4, .inl (k_cI G, 21, .inl w_a4)), (h_a5, .inl (k_cI G, 4, .inl w_a5))] ++ w8) H := k_permP hP hpm
      have hD : va_D A ([(h_a1, .inl (k_cI G, 7, .inl t7.1)), (h_a4, .inl (k_cI G, 21, .inl w_a4)), (h_a5, .inl (k_cI G, 4, .inl w_a5))] ++ w8) := k_permD hD hpm
      clear hpm
      clear et7
      refine lv_aload_n hx hb dL_told_446 rfl (lv_at hl 0 rfl) ?_
      refine lv_aload_n hx hb dL_told_447 rfl (lv_at hl 1 rfl) ?_
      refine lv_ldc2 (v := 2338324109281092640) hx hb hown (hts _ u_L_told_3) dL_told_448 ?_
      obtain ⟨t9, et9, hrun⟩ := bd_inv hrun
      have hpm : List.Perm ([(h_a1, .inl (k_cI G, 7, .inl t7.1)), (h_a4, .inl (k_cI G, 21, .inl w_a4)), (h_a5, .inl (k_cI G, 4, .inl w_a5))] ++ w8) ([(h_a4, .inl (k_cI G, 21, .inl w_a4)), (h_a5, .inl (k_cI G, 4, .inl w_a5))] ++ ([(h_a1, .inl (k_cI G, 7, .inl t7.1))] ++ w8)) := (List.Perm.trans (List.Perm.swap _ _ _) (List.Perm.cons _ (List.Perm.swap _ _ _)))
      have hP9 := k_permP hP hpm
      have hD9 := k_permD hD hpm
      refine lw_callSv (wr := [(h_a4, .inl (k_cI G, 21, .inl w_a4)), (h_a5, .inl (k_cI G, 4, .inl w_a5))]) (wc := ([(h_a1, .inl (k_cI G, 7, .inl t7.1))] ++ w8)) (rest := []) C0 (c_L_say hXW et9 H.size) (va_cwS 3 hts gL_told_L_say rfl rfl rfl e_L_say.2 ⟨Nat.le_of_ble_eq_true rfl, Nat.le_of_ble_eq_true rfl⟩) hP9 hD9 hS rfl hl.1 rfl (Nat.le_of_ble_eq_true rfl) dL_told_451 ⟨Nat.le_of_ble_eq_true rfl, Nat.le_of_ble_eq_true rfl⟩ (fun u9 H locs hu9 hP hD hS => ?_)
      obtain ⟨w10, rfl, hXW⟩ := hu9
      clear hpm hP9 hD9
      have hpm : List.Perm ([(h_a4, .inl (k_cI G, 21, .inl w_a4)), (h_a5, .inl (k_cI G, 4, .inl w_a5))] ++ ([(h_a1, .inl (k_cI G, 7, .inl t9.1))] ++ w10)) ([(h_a1, .inl (k_cI G, 7, .inl t9.1)), (h_a4, .inl (k_cI G, 21, .inl w_a4)), (h_a5, .inl (k_cI G, 4, .inl w_a5))] ++ w10) := (List.Perm.trans (List.Perm.cons _ (List.Perm.swap _ _ _)) (List.Perm.swap _ _ _))
      have hP : va_P G.1 vwCl ([(h_a1, .inl (k_cI G, 7, .inl t9.1)), (h_a4, .inl (k_cI G, 21, .inl w_a4)), (h_a5, .inl (k_cI G, 4, .inl w_a5))] ++ w10) H := k_permP hP hpm
      have hD : va_D A ([(h_a1, .inl (k_cI G, 7, .inl t9.1)), (h_a4, .inl (k_cI G, 21, .inl w_a4)), (h_a5, .inl (k_cI G, 4, .inl w_a5))] ++ w10) := k_permD hD hpm
      clear hpm
      clear et9
      refine lv_aload_n hx hb dL_told_454 rfl (lv_at hl 0 rfl) ?_
      refine lv_aload_n hx hb dL_told_455 rfl (lv_at hl 1 rfl) ?_
      refine lv_aload hx hb dL_told_456 (lv_at hl 2 rfl) ?_
      refine lv_iconst (v := 1) hx hb dL_told_458 (by decide) ?_
      obtain ⟨gz11, hrun⟩ := gd_inv hrun
      refine va_iald hx hb hK hP 1 1 rfl rfl gz11 dL_told_459 ?_
      obtain ⟨t12, et12, hrun⟩ := bd_inv hrun
      have hpm : List.Perm ([(h_a1, .inl (k_cI G, 7, .inl t9.1)), (h_a4, .inl (k_cI G, 21, .inl w_a4)), (h_a5, .inl (k_cI G, 4, .inl w_a5))] ++ w10) ([(h_a4, .inl (k_cI G, 21, .inl w_a4)), (h_a5, .inl (k_cI G, 4, .inl w_a5))] ++ ([(h_a1, .inl (k_cI G, 7, .inl t9.1))] ++ w10)) := (List.Perm.trans (List.Perm.swap _ _ _) (List.Perm.cons _ (List.Perm.swap _ _ _)))
      have hP9 := k_permP hP hpm
      have hD9 := k_permD hD hpm
      refine lw_callSv (wr := [(h_a4, .inl (k_cI G, 21, .inl w_a4)), (h_a5, .inl (k_cI G, 4, .inl w_a5))]) (wc := ([(h_a1, .inl (k_cI G, 7, .inl t9.1))] ++ w10)) (rest := []) C0 (c_L_below hXW et12 H.size) (va_cwS 3 hts gL_told_L_below rfl rfl rfl e_L_below.2 ⟨Nat.le_of_ble_eq_true rfl, Nat.le_of_ble_eq_true rfl⟩) hP9 hD9 hS rfl hl.1 rfl (Nat.le_of_ble_eq_true rfl) dL_told_460 ⟨Nat.le_of_ble_eq_true rfl, Nat.le_of_ble_eq_true rfl⟩ (fun u9 H locs hu9 hP hD hS => ?_)
      obtain ⟨w13, rfl, hXW⟩ := hu9
      clear hpm hP9 hD9
      have hpm : List.Perm ([(h_a4, .inl (k_cI G, 21, .inl w_a4)), (h_a5, .inl (k_cI G, 4, .inl w_a5))] ++ ([(h_a1, .inl (k_cI G, 7, .inl t12.1))] ++ w13)) ([(h_a1, .inl (k_cI G, 7, .inl t12.1)), (h_a4, .inl (k_cI G, 21, .inl w_a4)), (h_a5, .inl (k_cI G, 4, .inl w_a5))] ++ w13) := (List.Perm.trans (List.Perm.cons _ (List.Perm.swap _ _ _)) (List.Perm.swap _ _ _))
      have hP : va_P G.1 vwCl ([(h_a1, .inl (k_cI G, 7, .inl t12.1)), (h_a4, .inl (k_cI G, 21, .inl w_a4)), (h_a5, .inl (k_cI G, 4, .inl w_a5))] ++ w13) H := k_permP hP hpm
      have hD : va_D A ([(h_a1, .inl (k_cI G, 7, .inl t12.1)), (h_a4, .inl (k_cI G, 21, .inl w_a4)), (h_a5, .inl (k_cI G, 4, .inl w_a5))] ++ w13) := k_permD hD hpm
      clear hpm
      clear et12
      refine lv_aload_n hx hb dL_told_463 rfl (lv_at hl 0 rfl) ?_
      refine lv_aload_n hx hb dL_told_464 rfl (lv_at hl 1 rfl) ?_
      refine lv_ldc2 (v := 9135191049266208) hx hb hown (hts _ u_L_told_4) dL_told_465 ?_
      obtain ⟨t14, et14, hrun⟩ := bd_inv hrun
      have hpm : List.Perm ([(h_a1, .inl (k_cI G, 7, .inl t12.1)), (h_a4, .inl (k_cI G, 21, .inl w_a4)), (h_a5, .inl (k_cI G, 4, .inl w_a5))] ++ w13) ([(h_a4, .inl (k_cI G, 21, .inl w_a4)), (h_a5, .inl (k_cI G, 4, .inl w_a5))] ++ ([(h_a1, .inl (k_cI G, 7, .inl t12.1))] ++ w13)) := (List.Perm.trans (List.Perm.swap _ _ _) (List.Perm.cons _ (List.Perm.swap _ _ _)))
      have hP9 := k_permP hP hpm
      have hD9 := k_permD hD hpm
      refine lw_callSv (wr := [(h_a4, .inl (k_cI G, 21, .inl w_a4)), (h_a5, .inl (k_cI G, 4, .inl w_a5))]) (wc := ([(h_a1, .inl (k_cI G, 7, .inl t12.1))] ++ w13)) (rest := []) C0 (c_L_say hXW et14 H.size) (va_cwS 3 hts gL_told_L_say rfl rfl rfl e_L_say.2 ⟨Nat.le_of_ble_eq_true rfl, Nat.le_of_ble_eq_true rfl⟩) hP9 hD9 hS rfl hl.1 rfl (Nat.le_of_ble_eq_true rfl) dL_told_468 ⟨Nat.le_of_ble_eq_true rfl, Nat.le_of_ble_eq_true rfl⟩ (fun u9 H locs hu9 hP hD hS => ?_)
      obtain ⟨w15, rfl, hXW⟩ := hu9
      clear hpm hP9 hD9
      have hpm : List.Perm ([(h_a4, .inl (k_cI G, 21, .inl w_a4)), (h_a5, .inl (k_cI G, 4, .inl w_a5))] ++ ([(h_a1, .inl (k_cI G, 7, .inl t14.1))] ++ w15)) ([(h_a1, .inl (k_cI G, 7, .inl t14.1)), (h_a4, .inl (k_cI G, 21, .inl w_a4)), (h_a5, .inl (k_cI G, 4, .inl w_a5))] ++ w15) := (List.Perm.trans (List.Perm.cons _ (List.Perm.swap _ _ _)) (List.Perm.swap _ _ _))
      have hP : va_P G.1 vwCl ([(h_a1, .inl (k_cI G, 7, .inl t14.1)), (h_a4, .inl (k_cI G, 21, .inl w_a4)), (h_a5, .inl (k_cI G, 4, .inl w_a5))] ++ w15) H := k_permP hP hpm
      have hD : va_D A ([(h_a1, .inl (k_cI G, 7, .inl t14.1)), (h_a4, .inl (k_cI G, 21, .inl w_a4)), (h_a5, .inl (k_cI G, 4, .inl w_a5))] ++ w15) := k_permD hD hpm
      clear hpm
      clear et14
      refine lv_aload_n hx hb dL_told_471 rfl (lv_at hl 0 rfl) ?_
      refine lv_aload_n hx hb dL_told_472 rfl (lv_at hl 1 rfl) ?_
      refine lv_aload hx hb dL_told_473 (lv_at hl 2 rfl) ?_
      refine lv_iconst (v := 2) hx hb dL_told_475 (by decide) ?_
      obtain ⟨gz16, hrun⟩ := gd_inv hrun
      refine va_iald hx hb hK hP 1 1 rfl rfl gz16 dL_told_476 ?_
      obtain ⟨t17, et17, hrun⟩ := bd_inv hrun
      have hpm : List.Perm ([(h_a1, .inl (k_cI G, 7, .inl t14.1)), (h_a4, .inl (k_cI G, 21, .inl w_a4)), (h_a5, .inl (k_cI G, 4, .inl w_a5))] ++ w15) ([(h_a4, .inl (k_cI G, 21, .inl w_a4)), (h_a5, .inl (k_cI G, 4, .inl w_a5))] ++ ([(h_a1, .inl (k_cI G, 7, .inl t14.1))] ++ w15)) := (List.Perm.trans (List.Perm.swap _ _ _) (List.Perm.cons _ (List.Perm.swap _ _ _)))
      have hP9 := k_permP hP hpm
      have hD9 := k_permD hD hpm
      refine lw_callSv (wr := [(h_a4, .inl (k_cI G, 21, .inl w_a4)), (h_a5, .inl (k_cI G, 4, .inl w_a5))]) (wc := ([(h_a1, .inl (k_cI G, 7, .inl t14.1))] ++ w15)) (rest := []) C0 (c_L_below hXW et17 H.size) (va_cwS 3 hts gL_told_L_below rfl rfl rfl e_L_below.2 ⟨Nat.le_of_ble_eq_true rfl, Nat.le_of_ble_eq_true rfl⟩) hP9 hD9 hS rfl hl.1 rfl (Nat.le_of_ble_eq_true rfl) dL_told_477 ⟨Nat.le_of_ble_eq_true rfl, Nat.le_of_ble_eq_true rfl⟩ (fun u9 H locs hu9 hP hD hS => ?_)
      obtain ⟨w18, rfl, hXW⟩ := hu9
      clear hpm hP9 hD9
      have hpm : List.Perm ([(h_a4, .inl (k_cI G, 21, .inl w_a4)), (h_a5, .inl (k_cI G, 4, .inl w_a5))] ++ ([(h_a1, .inl (k_cI G, 7, .inl t17.1))] ++ w18)) ([(h_a1, .inl (k_cI G, 7, .inl t17.1)), (h_a4, .inl (k_cI G, 21, .inl w_a4)), (h_a5, .inl (k_cI G, 4, .inl w_a5))] ++ w18) := (List.Perm.trans (List.Perm.cons _ (List.Perm.swap _ _ _)) (List.Perm.swap _ _ _))
      have hP : va_P G.1 vwCl ([(h_a1, .inl (k_cI G, 7, .inl t17.1)), (h_a4, .inl (k_cI G, 21, .inl w_a4)), (h_a5, .inl (k_cI G, 4, .inl w_a5))] ++ w18) H := k_permP hP hpm
      have hD : va_D A ([(h_a1, .inl (k_cI G, 7, .inl t17.1)), (h_a4, .inl (k_cI G, 21, .inl w_a4)), (h_a5, .inl (k_cI G, 4, .inl w_a5))] ++ w18) := k_permD hD hpm
      clear hpm
      clear et17
      refine lv_aload_n hx hb dL_told_480 rfl (lv_at hl 0 rfl) ?_
      refine lv_aload_n hx hb dL_told_481 rfl (lv_at hl 1 rfl) ?_
      refine lv_ldc2 (v := 2334960754885945376) hx hb hown (hts _ u_L_told_5) dL_told_482 ?_
      obtain ⟨t19, et19, hrun⟩ := bd_inv hrun
      have hpm : List.Perm ([(h_a1, .inl (k_cI G, 7, .inl t17.1)), (h_a4, .inl (k_cI G, 21, .inl w_a4)), (h_a5, .inl (k_cI G, 4, .inl w_a5))] ++ w18) ([(h_a4, .inl (k_cI G, 21, .inl w_a4)), (h_a5, .inl (k_cI G, 4, .inl w_a5))] ++ ([(h_a1, .inl (k_cI G, 7, .inl t17.1))] ++ w18)) := (List.Perm.trans (List.Perm.swap _ _ _) (List.Perm.cons _ (List.Perm.swap _ _ _)))
      have hP9 := k_permP hP hpm
      have hD9 := k_permD hD hpm
      refine lw_callSv (wr := [(h_a4, .inl (k_cI G, 21, .inl w_a4)), (h_a5, .inl (k_cI G, 4, .inl w_a5))]) (wc := ([(h_a1, .inl (k_cI G, 7, .inl t17.1))] ++ w18)) (rest := []) C0 (c_L_say hXW et19 H.size) (va_cwS 3 hts gL_told_L_say rfl rfl rfl e_L_say.2 ⟨Nat.le_of_ble_eq_true rfl, Nat.le_of_ble_eq_true rfl⟩) hP9 hD9 hS rfl hl.1 rfl (Nat.le_of_ble_eq_true rfl) dL_told_485 ⟨Nat.le_of_ble_eq_true rfl, Nat.le_of_ble_eq_true rfl⟩ (fun u9 H locs hu9 hP hD hS => ?_)
      obtain ⟨w20, rfl, hXW⟩ := hu9
      clear hpm hP9 hD9
      have hpm : List.Perm ([(h_a4, .inl (k_cI G, 21, .inl w_a4)), (h_a5, .inl (k_cI G, 4, .inl w_a5))] ++ ([(h_a1, .inl (k_cI G, 7, .inl t19.1))] ++ w20)) ([(h_a1, .inl (k_cI G, 7, .inl t19.1)), (h_a4, .inl (k_cI G, 21, .inl w_a4)), (h_a5, .inl (k_cI G, 4, .inl w_a5))] ++ w20) := (List.Perm.trans (List.Perm.cons _ (List.Perm.swap _ _ _)) (List.Perm.swap _ _ _))
      have hP : va_P G.1 vwCl ([(h_a1, .inl (k_cI G, 7, .inl t19.1)), (h_a4, .inl (k_cI G, 21, .inl w_a4)), (h_a5, .inl (k_cI G, 4, .inl w_a5))] ++ w20) H := k_permP hP hpm
      have hD : va_D A ([(h_a1, .inl (k_cI G, 7, .inl t19.1)), (h_a4, .inl (k_cI G, 21, .inl w_a4)), (h_a5, .inl (k_cI G, 4, .inl w_a5))] ++ w20) := k_permD hD hpm
      clear hpm
      clear et19
      refine lv_aload_n hx hb dL_told_488 rfl (lv_at hl 0 rfl) ?_
      refine lv_aload_n hx hb dL_told_489 rfl (lv_at hl 1 rfl) ?_
      refine lv_aload hx hb dL_told_490 (lv_at hl 2 rfl) ?_
      refine lv_iconst (v := 3) hx hb dL_told_492 (by decide) ?_
      obtain ⟨gz21, hrun⟩ := gd_inv hrun
      refine va_iald hx hb hK hP 1 1 rfl rfl gz21 dL_told_493 ?_
      obtain ⟨t22, et22, hrun⟩ := bd_inv hrun
      have hpm : List.Perm ([(h_a1, .inl (k_cI G, 7, .inl t19.1)), (h_a4, .inl (k_cI G, 21, .inl w_a4)), (h_a5, .inl (k_cI G, 4, .inl w_a5))] ++ w20) ([(h_a4, .inl (k_cI G, 21, .inl w_a4)), (h_a5, .inl (k_cI G, 4, .inl w_a5))] ++ ([(h_a1, .inl (k_cI G, 7, .inl t19.1))] ++ w20)) := (List.Perm.trans (List.Perm.swap _ _ _) (List.Perm.cons _ (List.Perm.swap _ _ _)))
      have hP9 := k_permP hP hpm
      have hD9 := k_permD hD hpm
      refine lw_callSv (wr := [(h_a4, .inl (k_cI G, 21, .inl w_a4)), (h_a5, .inl (k_cI G, 4, .inl w_a5))]) (wc := ([(h_a1, .inl (k_cI G, 7, .inl t19.1))] ++ w20)) (rest := []) C0 (c_L_number hXW et22 H.size) (va_cwS 3 hts gL_told_L_number rfl rfl rfl e_L_number.2 ⟨Nat.le_of_ble_eq_true rfl, Nat.le_of_ble_eq_true rfl⟩) hP9 hD9 hS rfl hl.1 rfl (Nat.le_of_ble_eq_true rfl) dL_told_494 ⟨Nat.le_of_ble_eq_true rfl, Nat.le_of_ble_eq_true rfl⟩ (fun u9 H locs hu9 hP hD hS => ?_)
      obtain ⟨w23, rfl, hXW⟩ := hu9
      clear hpm hP9 hD9
      have hpm : List.Perm ([(h_a4, .inl (k_cI G, 21, .inl w_a4)), (h_a5, .inl (k_cI G, 4, .inl w_a5))] ++ ([(h_a1, .inl (k_cI G, 7, .inl t22.1))] ++ w23)) ([(h_a1, .inl (k_cI G, 7, .inl t22.1)), (h_a4, .inl (k_cI G, 21, .inl w_a4)), (h_a5, .inl (k_cI G, 4, .inl w_a5))] ++ w23) := (List.Perm.trans (List.Perm.cons _ (List.Perm.swap _ _ _)) (List.Perm.swap _ _ _))
      have hP : va_P G.1 vwCl ([(h_a1, .inl (k_cI G, 7, .inl t22.1)), (h_a4, .inl (k_cI G, 21, .inl w_a4)), (h_a5, .inl (k_cI G, 4, .inl w_a5))] ++ w23) H := k_permP hP hpm
      have hD : va_D A ([(h_a1, .inl (k_cI G, 7, .inl t22.1)), (h_a4, .inl (k_cI G, 21, .inl w_a4)), (h_a5, .inl (k_cI G, 4, .inl w_a5))] ++ w23) := k_permD hD hpm
      clear hpm
      clear et22
      refine lv_iconst (v := 0) hx hb dL_told_497 (by decide) ?_
      refine lv_istore (lv' := [(7, .int (0 : Int32)), (0, .ref h_o), (1, .ref h_a1), (4, .ref h_a4), (6, .int x6)]) hx hb dL_told_498 hl (by decide) rfl (fun ls hl => ?_)
      exact t_L_told_500 C0 kFU w23 (0 : Int32) t22.1 w_a4 w_a5 t22.2 _ _ _ hXW hP hD hS (lv_sub hl [1, 2, 3, 0] rfl) hrun
    · replace hrun := if_f q1 hrun
      refine lv_iload hx hb dL_told_342 (lv_at hl 3 rfl) ?_
      refine lv_bipush (v := 7) hx hb dL_told_344 (by decide) ?_
      refine lv_bipush (v := 8) hx hb dL_told_346 (by decide) ?_
      refine lv_iload hx hb dL_told_348 (lv_at hl 4 rfl) ?_
      refine lv_imul hx hb dL_told_350 ?_
      refine lv_iadd hx hb dL_told_351 ?_
      refine lv_ishr hx hb dL_told_352 ?_
      obtain ⟨n24, en, hrun⟩ := lt_inv hrun
      refine k_nmi en ?_
      clear en
      refine lv_istore (lv' := [(8, .int n24), (0, .ref h_o), (1, .ref h_a1), (4, .ref h_a4), (6, .int x6), (7, .int x7)]) hx hb dL_told_353 hl (by decide) rfl (fun ls hl => ?_)
      refine lv_aload hx hb dL_told_355 (lv_at hl 3 rfl) ?_
      refine lv_bipush (v := 15) hx hb dL_told_357 (by decide) ?_
      refine lv_iconst (v := 3) hx hb dL_told_359 (by decide) ?_
      refine lv_iload hx hb dL_told_360 (lv_at hl 5 rfl) ?_
      refine lv_imul hx hb dL_told_362 ?_
      refine lv_iadd hx hb dL_told_363 ?_
      refine lv_iload hx hb dL_told_364 (lv_at hl 0 rfl) ?_
      refine lv_iconst (v := 1) hx hb dL_told_366 (by decide) ?_
      refine lv_iand hx hb dL_told_367 ?_
      refine lv_aload hx hb dL_told_368 (lv_at hl 3 rfl) ?_
      refine lv_iconst (v := 4) hx hb dL_told_370 (by decide) ?_
      obtain ⟨gz25, hrun⟩ := gd_inv hrun
      refine va_iald hx hb hK hP 1 1 rfl rfl gz25 dL_told_371 ?_
      obtain ⟨gz26, hrun⟩ := gd_inv hrun
      refine lv_irem hx hb dL_told_372 gz26 ?_
      obtain ⟨n27, en, hrun⟩ := lt_inv hrun
      refine k_nmi en ?_
      clear en
      obtain ⟨gz28, hrun⟩ := gd_inv hrun
      obtain ⟨w29, ew, hrun⟩ := lt_inv hrun
      refine va_iast hx hb hK hP hD hS 1 1 rfl rfl gz28 dL_told_373 (fun H locs hP hD hS => ?_)
      have hP : va_P G.1 vwCl ([(h_a1, .inl (k_cI G, 7, .inl w_a1)), (h_a4, .inl (k_cI G, 21, .inl w29)), (h_a5, .inl (k_cI G, 4, .inl w_a5))] ++ w) H := by rw [ew]; exact hP
      have hD : va_D A ([(h_a1, .inl (k_cI G, 7, .inl w_a1)), (h_a4, .inl (k_cI G, 21, .inl w29)), (h_a5, .inl (k_cI G, 4, .inl w_a5))] ++ w) := by rw [ew]; exact hD
      clear ew
      refine lv_aload hx hb dL_told_374 (lv_at hl 3 rfl) ?_
      refine lv_bipush (v := 16) hx hb dL_told_376 (by decide) ?_
      refine lv_iconst (v := 3) hx hb dL_told_378 (by decide) ?_
      refine lv_iload hx hb dL_told_379 (lv_at hl 5 rfl) ?_
      refine lv_imul hx hb dL_told_381 ?_
      refine lv_iadd hx hb dL_told_382 ?_
      refine lv_iconst (v := 1) hx hb dL_told_383 (by decide) ?_
      refine lv_iconst (v := 2) hx hb dL_told_384 (by decide) ?_
      refine lv_iload hx hb dL_told_385 (lv_at hl 0 rfl) ?_
      refine lv_iconst (v := 1) hx hb dL_told_387 (by decide) ?_
      refine lv_ishr hx hb dL_told_388 ?_
      refine lv_bipush (v := 7) hx hb dL_told_389 (by decide) ?_
      refine lv_iand hx hb dL_told_391 ?_
      refine lv_imul hx hb dL_told_392 ?_
      refine lv_iadd hx hb dL_told_393 ?_
      refine lv_iload hx hb dL_told_394 (lv_at hl 5 rfl) ?_
      refine lv_iadd hx hb dL_told_396 ?_
      obtain ⟨n30, en, hrun⟩ := lt_inv hrun
      refine k_nmi en ?_
      clear en
      obtain ⟨gz31, hrun⟩ := gd_inv hrun
      obtain ⟨w32, ew, hrun⟩ := lt_inv hrun
      refine va_iast hx hb hK hP hD hS 1 1 rfl rfl gz31 dL_told_397 (fun H locs hP hD hS => ?_)
      have hP : va_P G.1 vwCl ([(h_a1, .inl (k_cI G, 7, .inl w_a1)), (h_a4, .inl (k_cI G, 21, .inl w32)), (h_a5, .inl (k_cI G, 4, .inl w_a5))] ++ w) H := by rw [ew]; exact hP
      have hD : va_D A ([(h_a1, .inl (k_cI G, 7, .inl w_a1)), (h_a4, .inl (k_cI G, 21, .inl w32)), (h_a5, .inl (k_cI G, 4, .inl w_a5))] ++ w) := by rw [ew]; exact hD
      clear ew
      refine lv_aload hx hb dL_told_398 (lv_at hl 3 rfl) ?_
      refine lv_bipush (v := 17) hx hb dL_told_400 (by decide) ?_
      refine lv_iconst (v := 3) hx hb dL_told_402 (by decide) ?_
      refine lv_iload hx hb dL_told_403 (lv_at hl 5 rfl) ?_
      refine lv_imul hx hb dL_told_405 ?_
      refine lv_iadd hx hb dL_told_406 ?_
      refine lv_iload hx hb dL_told_407 (lv_at hl 0 rfl) ?_
      refine lv_iconst (v := 4) hx hb dL_told_409 (by decide) ?_
      refine lv_ishr hx hb dL_told_410 ?_
      refine lv_bipush (v := 15) hx hb dL_told_411 (by decide) ?_
      refine lv_iand hx hb dL_told_413 ?_
      obtain ⟨n33, en, hrun⟩ := lt_inv hrun
      refine k_nmi en ?_
      clear en
      obtain ⟨gz34, hrun⟩ := gd_inv hrun
      obtain ⟨w35, ew, hrun⟩ := lt_inv hrun
      refine va_iast hx hb hK hP hD hS 1 1 rfl rfl gz34 dL_told_414 (fun H locs hP hD hS => ?_)
      have hP : va_P G.1 vwCl ([(h_a1, .inl (k_cI G, 7, .inl w_a1)), (h_a4, .inl (k_cI G, 21, .inl w35)), (h_a5, .inl (k_cI G, 4, .inl w_a5))] ++ w) H := by rw [ew]; exact hP
      have hD : va_D A ([(h_a1, .inl (k_cI G, 7, .inl w_a1)), (h_a4, .inl (k_cI G, 21, .inl w35)), (h_a5, .inl (k_cI G, 4, .inl w_a5))] ++ w) := by rw [ew]; exact hD
      clear ew
      refine lv_iinc (v := x7 + 1) (lv' := [(7, .int (x7 + 1)), (8, .int n24), (0, .ref h_o), (1, .ref h_a1), (4, .ref h_a4), (6, .int x6)]) hx hb dL_told_415 hl (k := 5) rfl rfl (by decide) rfl (fun ls hl => ?_)
      refine lv_goto (tgt := 336) hx hb dL_told_418 (by decide) ?_
      exact ih w x6 (x7 + 1) w_a1 w35 w_a5 σ _ _ _ hXW hP hD hS (lv_sub hl [2, 3, 4, 5, 0] rfl) hrun
set_option maxHeartbeats 4000000 in
set_option maxRecDepth 100000 in
theorem t_L_told_332 {l : Launch} {G : k_G} {p : Program} {e : Env} {s : State} {m : MethodId} {args : Array Value} {below : List Frame} {meth : Method} {c : Code} {A : Nat → Prop} {h_a1 h_a4 h_a5 h_o : Nat} {out : Int32 × (Nat → Int32) × (Nat → Int32) × (Nat → Int32) × k_SB} (C0 : k_C G p s m args meth c A cL_told RL wsL_told 9 (some .boolean) "told") : ∀ (w : va_W) (x6 : Int32) (s1 : Int32) (s2 : Int32) (w_a1 : Nat → Int32) (w_a4 : Nat → Int32) (w_a5 : Nat → Int32) (σ : k_SB) (H : Heap) (locs : List Loc) (ls : Array Slot), XW G h_o σ w → va_P G.1 vwCl ([(h_a1, .inl (k_cI G, 7, .inl w_a1)), (h_a4, .inl (k_cI G, 21, .inl w_a4)), (h_a5, .inl (k_cI G, 4, .inl w_a5))] ++ w) H → va_D A ([(h_a1, .inl (k_cI G, 7, .inl w_a1)), (h_a4, .inl (k_cI G, 21, .inl w_a4)), (h_a5, .inl (k_cI G, 4, .inl w_a5))] ++ w) → va_S A s.heap H locs → lv_has ls 9 [(0, .ref h_o), (1, .ref h_a1), (4, .ref h_a4), (6, .int x6)] → f_L_told_332 (k_xL G) (k_xs G) x6 s1 s2 w_a1 w_a4 w_a5 σ = some out → W p l e rm_L_told s m args below meth c H locs 0 0 (MQ below (va_Qi (fun r (u9 : va_W) => r = out.1 ∧ (fun u9 : va_W => ∃ w9, u9 = [(h_a1, .inl (k_cI G, 7, .inl out.2.1)), (h_a4, .inl (k_cI G, 21, .inl out.2.2.1)), (h_a5, .inl (k_cI G, 4, .inl out.2.2.2.1))] ++ w9 ∧ XW G h_o out.2.2.2.2 w9) u9) (fun u9 t => k_PB G A u9 t) A) args s 0 0 A) (F0 m 332 ls [.int s2, .int s1, .ref h_a4]) := by
  have hx := C0.1
  have hb := C0.2.1
  have hts := C0.2.2.2.1
  have hown := C0.2.2.2.2.1
  have hK := C0.2.2.2.2.2.2.2.2.1.1
  have hNW := C0.2.2.2.2.2.2.2.2.1.2.1
  have hSF := C0.2.2.2.2.2.2.2.2.1.2.2
  intro w x6 s1 s2 w_a1 w_a4 w_a5 σ H locs ls hXW hP hD hS hl hrun
  rw [f_L_told_332] at hrun
  obtain ⟨gz1, hrun⟩ := gd_inv hrun
  obtain ⟨w2, ew, hrun⟩ := lt_inv hrun
  refine va_iast hx hb hK hP hD hS 1 1 rfl rfl gz1 dL_told_332 (fun H locs hP hD hS => ?_)
  have hP : va_P G.1 vwCl ([(h_a1, .inl (k_cI G, 7, .inl w_a1)), (h_a4, .inl (k_cI G, 21, .inl w2)), (h_a5, .inl (k_cI G, 4, .inl w_a5))] ++ w) H := by rw [ew]; exact hP
  have hD : va_D A ([(h_a1, .inl (k_cI G, 7, .inl w_a1)), (h_a4, .inl (k_cI G, 21, .inl w2)), (h_a5, .inl (k_cI G, 4, .inl w_a5))] ++ w) := by rw [ew]; exact hD
  clear ew
  refine lv_iconst (v := 0) hx hb dL_told_333 (by decide) ?_
  refine lv_istore (lv' := [(7, .int (0 : Int32)), (0, .ref h_o), (1, .ref h_a1), (4, .ref h_a4), (6, .int x6)]) hx hb dL_told_334 hl (by decide) rfl (fun ls hl => ?_)
  exact t_L_told_336 C0 kFU w x6 (0 : Int32) w_a1 w2 w_a5 σ _ _ _ hXW hP hD hS (lv_sub hl [1, 2, 3, 4, 0] rfl) hrun
set_option maxHeartbeats 4000000 in
set_option maxRecDepth 100000 in
theorem t_L_told_116 {l : Launch} {G : k_G} {p : Program} {e : Env} {s : State} {m : MethodId} {args : Array Value} {below : List Frame} {meth : Method} {c : Code} {A : Nat → Prop} {h_a1 h_a4 h_a5 h_o : Nat} {out : Int32 × (Nat → Int32) × (Nat → Int32) × (Nat → Int32) × k_SB} (C0 : k_C G p s m args meth c A cL_told RL wsL_told 9 (some .boolean) "told") : ∀ (n : Nat) (w : va_W) (x3 : Int32) (x6 : Int32) (x7 : Int32) (w_a1 : Nat → Int32) (w_a4 : Nat → Int32) (w_a5 : Nat → Int32) (σ : k_SB) (H : Heap) (locs : List Loc) (ls : Array Slot), XW G h_o σ w → va_P G.1 vwCl ([(h_a1, .inl (k_cI G, 7, .inl w_a1)), (h_a4, .inl (k_cI G, 21, .inl w_a4)), (h_a5, .inl (k_cI G, 4, .inl w_a5))] ++ w) H → va_D A ([(h_a1, .inl (k_cI G, 7, .inl w_a1)), (h_a4, .inl (k_cI G, 21, .inl w_a4)), (h_a5, .inl (k_cI G, 4, .inl w_a5))] ++ w) → va_S A s.heap H locs → lv_has ls 9 [(0, .ref h_o), (1, .ref h_a1), (2, .ref (k_xB G)), (3, .int x3), (4, .ref h_a4), (5, .ref h_a5), (6, .int x6), (7, .int x7)] → f_L_told_116 (k_xL G) (k_xs G) n x3 x6 x7 w_a1 w_a4 w_a5 σ = some out → W p l e rm_L_told s m args below meth c H locs 0 0 (MQ below (va_Qi (fun r (u9 : va_W) => r = out.1 ∧ (fun u9 : va_W => ∃ w9, u9 = [(h_a1, .inl (k_cI G, 7, .inl out.2.1)), (h_a4, .inl (k_cI G, 21, .inl out.2.2.1)), (h_a5, .inl (k_cI G, 4, .inl out.2.2.2.1))] ++ w9 ∧ XW G h_o out.2.2.2.2 w9) u9) (fun u9 t => k_PB G A u9 t) A) args s 0 0 A) (F0 m 116 ls []) := by
  have hx := C0.1
  have hb := C0.2.1
  have hts := C0.2.2.2.1
  have hown := C0.2.2.2.2.1
  have hK := C0.2.2.2.2.2.2.2.2.1.1
  have hNW := C0.2.2.2.2.2.2.2.2.1.2.1
  have hSF := C0.2.2.2.2.2.2.2.2.1.2.2
  intro n
  induction n with
  | zero =>
    intro w x3 x6 x7 w_a1 w_a4 w_a5 σ H locs ls hXW hP hD hS hl hrun
    rw [f_L_told_116] at hrun
    cases hrun
  | succ n ih =>
    intro w x3 x6 x7 w_a1 w_a4 w_a5 σ H locs ls hXW hP hD hS hl hrun
    rw [f_L_told_116] at hrun
    refine lv_iload hx hb dL_told_116 (lv_at hl 7 rfl) ?_
    refine lv_iconst (v := 2) hx hb dL_told_118 (by decide) ?_
    refine lv_icmp_ge (tgt := 207) hx hb dL_told_119 (by decide) (fun q1 => ?_) (fun q1 => ?_)
    · replace hrun := if_t q1 hrun
      refine lv_aload_n hx hb dL_told_207 rfl (lv_at hl 2 rfl) ?_
      refine lv_iload_n hx hb dL_told_208 rfl (lv_at hl 3 rfl) ?_
      refine lv_iconst (v := 2) hx hb dL_told_209 (by decide) ?_
      refine lv_iadd hx hb dL_told_210 ?_
      obtain ⟨t2, et2, hrun⟩ := bd_inv hrun
      refine k_calli0 C0 (k_runS (rest := []) C0 (c_L_cell et2) (va_cwS 2 hts gL_told_L_cell rfl rfl rfl e_L_cell.2 ⟨Nat.le_of_ble_eq_true rfl, Nat.le_of_ble_eq_true rfl⟩) hP hD hS [] rfl (by decide) rfl hl.1 rfl (Nat.le_of_ble_eq_true rfl) dL_told_211 ⟨Nat.le_of_ble_eq_true rfl, Nat.le_of_ble_eq_true rfl⟩) hP hS (fun H locs hP hS => ?_)
      clear et2
      refine lv_istore (lv' := [(6, .int t2), (0, .ref h_o), (1, .ref h_a1), (2, .ref (k_xB G)), (3, .int x3), (4, .ref h_a4), (5, .ref h_a5), (7, .int x7)]) hx hb dL_told_214 hl (by decide) rfl (fun ls hl => ?_)
      refine lv_aload hx hb dL_told_216 (lv_at hl 5 rfl) ?_
      refine lv_bipush (v := 10) hx hb dL_told_218 (by decide) ?_
      refine lv_iload hx hb dL_told_220 (lv_at hl 0 rfl) ?_
      refine lv_iconst (v := 1) hx hb dL_told_222 (by decide) ?_
      refine lv_iand hx hb dL_told_223 ?_
      refine lv_aload hx hb dL_told_224 (lv_at hl 5 rfl) ?_
      refine lv_iconst (v := 4) hx hb dL_told_226 (by decide) ?_
      obtain ⟨gz3, hrun⟩ := gd_inv hrun
      refine va_iald hx hb hK hP 1 1 rfl rfl gz3 dL_told_227 ?_
      obtain ⟨gz4, hrun⟩ := gd_inv hrun
      refine lv_irem hx hb dL_told_228 gz4 ?_
      obtain ⟨n5, en, hrun⟩ := lt_inv hrun
      refine k_nmi en ?_
      clear en
      obtain ⟨gz6, hrun⟩ := gd_inv hrun
      obtain ⟨w7, ew, hrun⟩ := lt_inv hrun
      refine va_iast hx hb hK hP hD hS 1 1 rfl rfl gz6 dL_told_229 (fun H locs hP hD hS => ?_)
      have hP : va_P G.1 vwCl ([(h_a1, .inl (k_cI G, 7, .inl w_a1)), (h_a4, .inl (k_cI G, 21, .inl w7)), (h_a5, .inl (k_cI G, 4, .inl w_a5))] ++ w) H := by rw [ew]; exact hP
      have hD : va_D A ([(h_a1, .inl (k_cI G, 7, .inl w_a1)), (h_a4, .inl (k_cI G, 21, .inl w7)), (h_a5, .inl (k_cI G, 4, .inl w_a5))] ++ w) := by rw [ew]; exact hD
      clear ew
      refine lv_aload hx hb dL_told_230 (lv_at hl 5 rfl) ?_
      refine lv_bipush (v := 11) hx hb dL_told_232 (by decide) ?_
      refine lv_iload hx hb dL_told_234 (lv_at hl 0 rfl) ?_
      refine lv_iconst (v := 1) hx hb dL_told_236 (by decide) ?_
      refine lv_ishr hx hb dL_told_237 ?_
      refine lv_bipush (v := 7) hx hb dL_told_238 (by decide) ?_
      refine lv_iand hx hb dL_told_240 ?_
      refine lv_aload hx hb dL_told_241 (lv_at hl 5 rfl) ?_
      refine lv_iconst (v := 5) hx hb dL_told_243 (by decide) ?_
      refine lv_iconst (v := 2) hx hb dL_told_244 (by decide) ?_
      refine lv_aload hx hb dL_told_245 (lv_at hl 5 rfl) ?_
      refine lv_bipush (v := 10) hx hb dL_told_247 (by decide) ?_
      obtain ⟨gz8, hrun⟩ := gd_inv hrun
      refine va_iald hx hb hK hP 1 1 rfl rfl gz8 dL_told_249 ?_
      refine lv_imul hx hb dL_told_250 ?_
      refine lv_iadd hx hb dL_told_251 ?_
      obtain ⟨gz9, hrun⟩ := gd_inv hrun
      refine va_iald hx hb hK hP 1 1 rfl rfl gz9 dL_told_252 ?_
      obtain ⟨gz10, hrun⟩ := gd_inv hrun
      refine lv_irem hx hb dL_told_253 gz10 ?_
      obtain ⟨n11, en, hrun⟩ := lt_inv hrun
      refine k_nmi en ?_
      clear en
      obtain ⟨gz12, hrun⟩ := gd_inv hrun
      obtain ⟨w13, ew, hrun⟩ := lt_inv hrun
      refine va_iast hx hb hK hP hD hS 1 1 rfl rfl gz12 dL_told_254 (fun H locs hP hD hS => ?_)
      have hP : va_P G.1 vwCl ([(h_a1, .inl (k_cI G, 7, .inl w_a1)), (h_a4, .inl (k_cI G, 21, .inl w13)), (h_a5, .inl (k_cI G, 4, .inl w_a5))] ++ w) H := by rw [ew]; exact hP
      have hD : va_D A ([(h_a1, .inl (k_cI G, 7, .inl w_a1)), (h_a4, .inl (k_cI G, 21, .inl w13)), (h_a5, .inl (k_cI G, 4, .inl w_a5))] ++ w) := by rw [ew]; exact hD
      clear ew
      refine lv_aload hx hb dL_told_255 (lv_at hl 5 rfl) ?_
      refine lv_bipush (v := 12) hx hb dL_told_257 (by decide) ?_
      refine lv_aload hx hb dL_told_259 (lv_at hl 5 rfl) ?_
      refine lv_bipush (v := 10) hx hb dL_told_261 (by decide) ?_
      obtain ⟨gz14, hrun⟩ := gd_inv hrun
      refine va_iald hx hb hK hP 1 1 rfl rfl gz14 dL_told_263 ?_
      refine lv_iconst (v := 1) hx hb dL_told_264 (by decide) ?_
      refine lv_iadd hx hb dL_told_265 ?_
      refine lv_aload hx hb dL_told_266 (lv_at hl 5 rfl) ?_
      refine lv_iconst (v := 4) hx hb dL_told_268 (by decide) ?_
      obtain ⟨gz15, hrun⟩ := gd_inv hrun
      refine va_iald hx hb hK hP 1 1 rfl rfl gz15 dL_told_269 ?_
      obtain ⟨gz16, hrun⟩ := gd_inv hrun
      refine lv_irem hx hb dL_told_270 gz16 ?_
      obtain ⟨n17, en, hrun⟩ := lt_inv hrun
      refine k_nmi en ?_
      clear en
      obtain ⟨gz18, hrun⟩ := gd_inv hrun
      obtain ⟨w19, ew, hrun⟩ := lt_inv hrun
      refine va_iast hx hb hK hP hD hS 1 1 rfl rfl gz18 dL_told_271 (fun H locs hP hD hS => ?_)
      have hP : va_P G.1 vwCl ([(h_a1, .inl (k_cI G, 7, .inl w_a1)), (h_a4, .inl (k_cI G, 21, .inl w19)), (h_a5, .inl (k_cI G, 4, .inl w_a5))] ++ w) H := by rw [ew]; exact hP
      have hD : va_D A ([(h_a1, .inl (k_cI G, 7, .inl w_a1)), (h_a4, .inl (k_cI G, 21, .inl w19)), (h_a5, .inl (k_cI G, 4, .inl w_a5))] ++ w) := by rw [ew]; exact hD
      clear ew
      refine lv_aload hx hb dL_told_272 (lv_at hl 5 rfl) ?_
      refine lv_bipush (v := 13) hx hb dL_told_274 (by decide) ?_
      refine lv_aload hx hb dL_told_276 (lv_at hl 5 rfl) ?_
      refine lv_bipush (v := 12) hx hb dL_told_278 (by decide) ?_
      obtain ⟨gz20, hrun⟩ := gd_inv hrun
      refine va_iald hx hb hK hP 1 1 rfl rfl gz20 dL_told_280 ?_
      refine lv_aload hx hb dL_told_281 (lv_at hl 5 rfl) ?_
      refine lv_bipush (v := 10) hx hb dL_told_283 (by decide) ?_
      obtain ⟨gz21, hrun⟩ := gd_inv hrun
      refine va_iald hx hb hK hP 1 1 rfl rfl gz21 dL_told_285 ?_
      refine lv_icmp_ne (tgt := 312) hx hb dL_told_286 (by decide) (fun q22 => ?_) (fun q22 => ?_)
      · replace hrun := if_f q22 hrun
        refine lv_iload hx hb dL_told_312 (lv_at hl 0 rfl) ?_
        refine lv_iconst (v := 4) hx hb dL_told_314 (by decide) ?_
        refine lv_ishr hx hb dL_told_315 ?_
        refine lv_bipush (v := 7) hx hb dL_told_316 (by decide) ?_
        refine lv_iand hx hb dL_told_318 ?_
        refine lv_aload hx hb dL_told_319 (lv_at hl 5 rfl) ?_
        refine lv_iconst (v := 5) hx hb dL_told_321 (by decide) ?_
        refine lv_iconst (v := 2) hx hb dL_told_322 (by decide) ?_
        refine lv_aload hx hb dL_told_323 (lv_at hl 5 rfl) ?_
        refine lv_bipush (v := 12) hx hb dL_told_325 (by decide) ?_
        obtain ⟨gz23, hrun⟩ := gd_inv hrun
        refine va_iald hx hb hK hP 1 1 rfl rfl gz23 dL_told_327 ?_
        refine lv_imul hx hb dL_told_328 ?_
        refine lv_iadd hx hb dL_told_329 ?_
        obtain ⟨gz24, hrun⟩ := gd_inv hrun
        refine va_iald hx hb hK hP 1 1 rfl rfl gz24 dL_told_330 ?_
        obtain ⟨gz25, hrun⟩ := gd_inv hrun
        refine lv_irem hx hb dL_told_331 gz25 ?_
        exact t_L_told_332 C0 w t2 (13 : Int32) (((t2 >>> ((4 : Int32) &&& 31)) &&& (7 : Int32)) - ((t2 >>> ((4 : Int32) &&& 31)) &&& (7 : Int32)) / (w19 ((5 : Int32) + ((2 : Int32) * (w19 (12 : Int32).toNatClampNeg))).toNatClampNeg) * (w19 ((5 : Int32) + ((2 : Int32) * (w19 (12 : Int32).toNatClampNeg))).toNatClampNeg)) w_a1 w19 w_a5 σ _ _ _ hXW hP hD hS (lv_sub hl [1, 2, 5, 0] rfl) hrun
      · replace hrun := if_t q22 hrun
        refine lv_aload hx hb dL_told_289 (lv_at hl 5 rfl) ?_
        refine lv_bipush (v := 11) hx hb dL_told_291 (by decide) ?_
        obtain ⟨gz26, hrun⟩ := gd_inv hrun
        refine va_iald hx hb hK hP 1 1 rfl rfl gz26 dL_told_293 ?_
        refine lv_iconst (v := 1) hx hb dL_told_294 (by decide) ?_
        refine lv_iadd hx hb dL_told_295 ?_
        refine lv_aload hx hb dL_told_296 (lv_at hl 5 rfl) ?_
        refine lv_iconst (v := 5) hx hb dL_told_298 (by decide) ?_
        refine lv_iconst (v := 2) hx hb dL_told_299 (by decide) ?_
        refine lv_aload hx hb dL_told_300 (lv_at hl 5 rfl) ?_
        refine lv_bipush (v := 10) hx hb dL_told_302 (by decide) ?_
        obtain ⟨gz27, hrun⟩ := gd_inv hrun
        refine va_iald hx hb hK hP 1 1 rfl rfl gz27 dL_told_304 ?_
        refine lv_imul hx hb dL_told_305 ?_
        refine lv_iadd hx hb dL_told_306 ?_
        obtain ⟨gz28, hrun⟩ := gd_inv hrun
        refine va_iald hx hb hK hP 1 1 rfl rfl gz28 dL_told_307 ?_
        obtain ⟨gz29, hrun⟩ := gd_inv hrun
        refine lv_irem hx hb dL_told_308 gz29 ?_
        refine lv_goto (tgt := 332) hx hb dL_told_309 (by decide) ?_
        exact t_L_told_332 C0 w t2 (13 : Int32) (((w19 (11 : Int32).toNatClampNeg) + (1 : Int32)) - ((w19 (11 : Int32).toNatClampNeg) + (1 : Int32)) / (w19 ((5 : Int32) + ((2 : Int32) * (w19 (10 : Int32).toNatClampNeg))).toNatClampNeg) * (w19 ((5 : Int32) + ((2 : Int32) * (w19 (10 : Int32).toNatClampNeg))).toNatClampNeg)) w_a1 w19 w_a5 σ _ _ _ hXW hP hD hS (lv_sub hl [1, 2, 5, 0] rfl) hrun
    · replace hrun := if_f q1 hrun
      refine lv_iconst (v := 2) hx hb dL_told_122 (by decide) ?_
      refine lv_iload hx hb dL_told_123 (lv_at hl 6 rfl) ?_
      refine lv_iconst (v := 3) hx hb dL_told_125 (by decide) ?_
      refine lv_iload hx hb dL_told_126 (lv_at hl 7 rfl) ?_
      refine lv_imul hx hb dL_told_128 ?_
      refine lv_ishr hx hb dL_told_129 ?_
      refine lv_bipush (v := 7) hx hb dL_told_130 (by decide) ?_
      refine lv_iand hx hb dL_told_132 ?_
      refine lv_iconst (v := 5) hx hb dL_told_133 (by decide) ?_
      refine lv_irem hx hb dL_told_134 (by decide) ?_
      refine lv_iadd hx hb dL_told_135 ?_
      obtain ⟨n30, en, hrun⟩ := lt_inv hrun
      refine k_nmi en ?_
      clear en
      refine lv_istore (lv' := [(8, .int n30), (0, .ref h_o), (1, .ref h_a1), (2, .ref (k_xB G)), (3, .int x3), (4, .ref h_a4), (5, .ref h_a5), (6, .int x6), (7, .int x7)]) hx hb dL_told_136 hl (by decide) rfl (fun ls hl => ?_)
      refine lv_aload hx hb dL_told_138 (lv_at hl 5 rfl) ?_
      refine lv_iconst (v := 5) hx hb dL_told_140 (by decide) ?_
      refine lv_iconst (v := 2) hx hb dL_told_141 (by decide) ?_
      refine lv_iload hx hb dL_told_142 (lv_at hl 8 rfl) ?_
      refine lv_imul hx hb dL_told_144 ?_
      refine lv_iadd hx hb dL_told_145 ?_
      refine lv_iload hx hb dL_told_146 (lv_at hl 0 rfl) ?_
      obtain ⟨gz31, hrun⟩ := gd_inv hrun
      obtain ⟨w32, ew, hrun⟩ := lt_inv hrun
      refine va_iast hx hb hK hP hD hS 1 1 rfl rfl gz31 dL_told_148 (fun H locs hP hD hS => ?_)
      have hP : va_P G.1 vwCl ([(h_a1, .inl (k_cI G, 7, .inl w_a1)), (h_a4, .inl (k_cI G, 21, .inl w32)), (h_a5, .inl (k_cI G, 4, .inl w_a5))] ++ w) H := by rw [ew]; exact hP
      have hD : va_D A ([(h_a1, .inl (k_cI G, 7, .inl w_a1)), (h_a4, .inl (k_cI G, 21, .inl w32)), (h_a5, .inl (k_cI G, 4, .inl w_a5))] ++ w) := by rw [ew]; exact hD
      clear ew
      refine lv_aload hx hb dL_told_149 (lv_at hl 5 rfl) ?_
      refine lv_bipush (v := 6) hx hb dL_told_151 (by decide) ?_
      refine lv_iconst (v := 2) hx hb dL_told_153 (by decide) ?_
      refine lv_iload hx hb dL_told_154 (lv_at hl 8 rfl) ?_
      refine lv_imul hx hb dL_told_156 ?_
      refine lv_iadd hx hb dL_told_157 ?_
      refine lv_iload hx hb dL_told_158 (lv_at hl 7 rfl) ?_
      refine lv_bipush (v := 6) hx hb dL_told_160 (by decide) ?_
      refine lv_bipush (v := 6) hx hb dL_told_162 (by decide) ?_
      refine lv_iload hx hb dL_told_164 (lv_at hl 8 rfl) ?_
      refine lv_imul hx hb dL_told_166 ?_
      refine lv_iadd hx hb dL_told_167 ?_
      refine lv_ishr hx hb dL_told_168 ?_
      refine lv_iconst (v := 1) hx hb dL_told_169 (by decide) ?_
      refine lv_iload hx hb dL_told_170 (lv_at hl 0 rfl) ?_
      refine lv_ishl hx hb dL_told_172 ?_
      refine lv_iconst (v := 1) hx hb dL_told_173 (by decide) ?_
      refine lv_isub hx hb dL_told_174 ?_
      refine lv_iand hx hb dL_told_175 ?_
      obtain ⟨n33, en, hrun⟩ := lt_inv hrun
      refine k_nmi en ?_
      clear en
      obtain ⟨gz34, hrun⟩ := gd_inv hrun
      obtain ⟨w35, ew, hrun⟩ := lt_inv hrun
      refine va_iast hx hb hK hP hD hS 1 1 rfl rfl gz34 dL_told_176 (fun H locs hP hD hS => ?_)
      have hP : va_P G.1 vwCl ([(h_a1, .inl (k_cI G, 7, .inl w_a1)), (h_a4, .inl (k_cI G, 21, .inl w35)), (h_a5, .inl (k_cI G, 4, .inl w_a5))] ++ w) H := by rw [ew]; exact hP
      have hD : va_D A ([(h_a1, .inl (k_cI G, 7, .inl w_a1)), (h_a4, .inl (k_cI G, 21, .inl w35)), (h_a5, .inl (k_cI G, 4, .inl w_a5))] ++ w) := by rw [ew]; exact hD
      clear ew
      refine lv_aload hx hb dL_told_177 (lv_at hl 6 rfl) ?_
      refine lv_iload hx hb dL_told_179 (lv_at hl 8 rfl) ?_
      refine lv_iload hx hb dL_told_181 (lv_at hl 0 rfl) ?_
      obtain ⟨gz36, hrun⟩ := gd_inv hrun
      obtain ⟨w37, ew, hrun⟩ := lt_inv hrun
      refine va_iast hx hb hK hP hD hS 2 1 rfl rfl gz36 dL_told_183 (fun H locs hP hD hS => ?_)
      have hP : va_P G.1 vwCl ([(h_a1, .inl (k_cI G, 7, .inl w_a1)), (h_a4, .inl (k_cI G, 21, .inl w35)), (h_a5, .inl (k_cI G, 4, .inl w37))] ++ w) H := by rw [ew]; exact hP
      have hD : va_D A ([(h_a1, .inl (k_cI G, 7, .inl w_a1)), (h_a4, .inl (k_cI G, 21, .inl w35)), (h_a5, .inl (k_cI G, 4, .inl w37))] ++ w) := by rw [ew]; exact hD
      clear ew
      refine lv_aload hx hb dL_told_184 (lv_at hl 6 rfl) ?_
      refine lv_iconst (v := 2) hx hb dL_told_186 (by decide) ?_
      refine lv_iload hx hb dL_told_187 (lv_at hl 8 rfl) ?_
      refine lv_iadd hx hb dL_told_189 ?_
      refine lv_aload hx hb dL_told_190 (lv_at hl 5 rfl) ?_
      refine lv_bipush (v := 6) hx hb dL_told_192 (by decide) ?_
      refine lv_iconst (v := 2) hx hb dL_told_194 (by decide) ?_
      refine lv_iload hx hb dL_told_195 (lv_at hl 8 rfl) ?_
      refine lv_imul hx hb dL_told_197 ?_
      refine lv_iadd hx hb dL_told_198 ?_
      obtain ⟨gz38, hrun⟩ := gd_inv hrun
      refine va_iald hx hb hK hP 1 1 rfl rfl gz38 dL_told_199 ?_
      obtain ⟨n39, en, hrun⟩ := lt_inv hrun
      refine k_nmi en ?_
      clear en
      obtain ⟨gz40, hrun⟩ := gd_inv hrun
      obtain ⟨w41, ew, hrun⟩ := lt_inv hrun
      refine va_iast hx hb hK hP hD hS 2 1 rfl rfl gz40 dL_told_200 (fun H locs hP hD hS => ?_)
      have hP : va_P G.1 vwCl ([(h_a1, .inl (k_cI G, 7, .inl w_a1)), (h_a4, .inl (k_cI G, 21, .inl w35)), (h_a5, .inl (k_cI G, 4, .inl w41))] ++ w) H := by rw [ew]; exact hP
      have hD : va_D A ([(h_a1, .inl (k_cI G, 7, .inl w_a1)), (h_a4, .inl (k_cI G, 21, .inl w35)), (h_a5, .inl (k_cI G, 4, .inl w41))] ++ w) := by rw [ew]; exact hD
      clear ew
      refine lv_iinc (v := x7 + 1) (lv' := [(7, .int (x7 + 1)), (8, .int n30), (0, .ref h_o), (1, .ref h_a1), (2, .ref (k_xB G)), (3, .int x3), (4, .ref h_a4), (5, .ref h_a5), (6, .int x6)]) hx hb dL_told_201 hl (k := 8) rfl rfl (by decide) rfl (fun ls hl => ?_)
      refine lv_goto (tgt := 116) hx hb dL_told_204 (by decide) ?_
      exact ih w x3 x6 (x7 + 1) w_a1 w35 w41 σ _ _ _ hXW hP hD hS (lv_sub hl [2, 3, 4, 5, 6, 7, 8, 0] rfl) hrun
set_option maxHeartbeats 4000000 in
set_option maxRecDepth 100000 in
theorem c_L_told {l : Launch} {G : k_G} {h_a1 h_a4 h_a5 h_o : Nat} {p3 : Int32} {w_a1 : Nat → Int32} {w_a4 : Nat → Int32} {w_a5 : Nat → Int32} {σ : k_SB} {w : va_W} {out : Int32 × (Nat → Int32) × (Nat → Int32) × (Nat → Int32) × k_SB} (hXW : XW G h_o σ w) (hrun : f_L_told (k_xL G) (k_xs G) p3 w_a1 w_a4 w_a5 σ = some out) (sz : Nat) : k_Di l G yL_told wsL_told rm_L_told [.ref h_o, .ref h_a1, .ref (k_xB G), .int p3, .ref h_a4, .ref h_a5] ([(h_a1, .inl (k_cI G, 7, .inl w_a1)), (h_a4, .inl (k_cI G, 21, .inl w_a4)), (h_a5, .inl (k_cI G, 4, .inl w_a5))] ++ w) sz out.1 (fun u9 : va_W => ∃ w9, u9 = [(h_a1, .inl (k_cI G, 7, .inl out.2.1)), (h_a4, .inl (k_cI G, 21, .inl out.2.2.1)), (h_a5, .inl (k_cI G, 4, .inl out.2.2.2.1))] ++ w9 ∧ XW G h_o out.2.2.2.2 w9) 0 0 := by
  refine k_of (cc := cL_told) (nL := 9) (ret := some .boolean) (own := RL) (nm := "told") (by decide) rfl rfl rfl rfl ?_
  intro p e s m args below meth c ls hsz C0 hP hD hS hl
  have hl : lv_has ls 9 [(0, .ref h_o), (1, .ref h_a1), (2, .ref (k_xB G)), (3, .int p3), (4, .ref h_a4), (5, .ref h_a5)] := hl
  generalize hH : s.heap = H at hP
  have hS : va_S (va_A ([(h_a1, .inl (k_cI G, 7, .inl w_a1)), (h_a4, .inl (k_cI G, 21, .inl w_a4)), (h_a5, .inl (k_cI G, 4, .inl w_a5))] ++ w) sz) s.heap H [] := by rw [← hH]; exact hS
  clear hH
  generalize va_A ([(h_a1, .inl (k_cI G, 7, .inl w_a1)), (h_a4, .inl (k_cI G, 21, .inl w_a4)), (h_a5, .inl (k_cI G, 4, .inl w_a5))] ++ w) sz = A at C0 hD hS ⊢
  have hx := C0.1
  have hb := C0.2.1
  have hts := C0.2.2.2.1
  have hown := C0.2.2.2.2.1
  have hK := C0.2.2.2.2.2.2.2.2.1.1
  have hNW := C0.2.2.2.2.2.2.2.2.1.2.1
  have hSF := C0.2.2.2.2.2.2.2.2.1.2.2
  rw [f_L_told] at hrun
  refine lv_aload_n hx hb dL_told_0 rfl (lv_at hl 2 rfl) ?_
  refine lv_iload_n hx hb dL_told_1 rfl (lv_at hl 3 rfl) ?_
  obtain ⟨t1, et1, hrun⟩ := bd_inv hrun
  refine k_calli0 C0 (k_runS (rest := []) C0 (c_L_cell et1) (va_cwS 2 hts gL_told_L_cell rfl rfl rfl e_L_cell.2 ⟨Nat.le_of_ble_eq_true rfl, Nat.le_of_ble_eq_true rfl⟩) hP hD hS [] rfl (by decide) rfl hl.1 rfl (Nat.le_of_ble_eq_true rfl) dL_told_2 ⟨Nat.le_of_ble_eq_true rfl, Nat.le_of_ble_eq_true rfl⟩) hP hS (fun H locs hP hS => ?_)
  clear et1
  refine lv_istore (lv' := [(6, .int t1), (0, .ref h_o), (1, .ref h_a1), (2, .ref (k_xB G)), (3, .int p3), (4, .ref h_a4), (5, .ref h_a5)]) hx hb dL_told_5 hl (by decide) rfl (fun ls hl => ?_)
  refine lv_aload hx hb dL_told_7 (lv_at hl 5 rfl) ?_
  refine lv_iconst (v := 0) hx hb dL_told_9 (by decide) ?_
  refine lv_iload hx hb dL_told_10 (lv_at hl 0 rfl) ?_
  refine lv_bipush (v := 31) hx hb dL_told_12 (by decide) ?_
  refine lv_iand hx hb dL_told_14 ?_
  refine lv_bipush (v := 16) hx hb dL_told_15 (by decide) ?_
  refine lv_isub hx hb dL_told_17 ?_
  obtain ⟨n2, en, hrun⟩ := lt_inv hrun
  refine k_nmi en ?_
  clear en
  obtain ⟨gz3, hrun⟩ := gd_inv hrun
  obtain ⟨w4, ew, hrun⟩ := lt_inv hrun
  refine va_iast hx hb hK hP hD hS 1 1 rfl rfl gz3 dL_told_18 (fun H locs hP hD hS => ?_)
  have hP : va_P G.1 vwCl ([(h_a1, .inl (k_cI G, 7, .inl w_a1)), (h_a4, .inl (k_cI G, 21, .inl w4)), (h_a5, .inl (k_cI G, 4, .inl w_a5))] ++ w) H := by rw [ew]; exact hP
  have hD : va_D A ([(h_a1, .inl (k_cI G, 7, .inl w_a1)), (h_a4, .inl (k_cI G, 21, .inl w4)), (h_a5, .inl (k_cI G, 4, .inl w_a5))] ++ w) := by rw [ew]; exact hD
  clear ew
  refine lv_aload hx hb dL_told_19 (lv_at hl 5 rfl) ?_
  refine lv_iconst (v := 1) hx hb dL_told_21 (by decide) ?_
  refine lv_iload hx hb dL_told_22 (lv_at hl 0 rfl) ?_
  refine lv_iconst (v := 5) hx hb dL_told_24 (by decide) ?_
  refine lv_ishr hx hb dL_told_25 ?_
  refine lv_bipush (v := 31) hx hb dL_told_26 (by decide) ?_
  refine lv_iand hx hb dL_told_28 ?_
  refine lv_bipush (v := 16) hx hb dL_told_29 (by decide) ?_
  refine lv_isub hx hb dL_told_31 ?_
  obtain ⟨n5, en, hrun⟩ := lt_inv hrun
  refine k_nmi en ?_
  clear en
  obtain ⟨gz6, hrun⟩ := gd_inv hrun
  obtain ⟨w7, ew, hrun⟩ := lt_inv hrun
  refine va_iast hx hb hK hP hD hS 1 1 rfl rfl gz6 dL_told_32 (fun H locs hP hD hS => ?_)
  have hP : va_P G.1 vwCl ([(h_a1, .inl (k_cI G, 7, .inl w_a1)), (h_a4, .inl (k_cI G, 21, .inl w7)), (h_a5, .inl (k_cI G, 4, .inl w_a5))] ++ w) H := by rw [ew]; exact hP
  have hD : va_D A ([(h_a1, .inl (k_cI G, 7, .inl w_a1)), (h_a4, .inl (k_cI G, 21, .inl w7)), (h_a5, .inl (k_cI G, 4, .inl w_a5))] ++ w) := by rw [ew]; exact hD
  clear ew
  refine lv_aload hx hb dL_told_33 (lv_at hl 5 rfl) ?_
  refine lv_iconst (v := 2) hx hb dL_told_35 (by decide) ?_
  refine lv_iload hx hb dL_told_36 (lv_at hl 0 rfl) ?_
  refine lv_bipush (v := 10) hx hb dL_told_38 (by decide) ?_
  refine lv_ishr hx hb dL_told_40 ?_
  refine lv_bipush (v := 31) hx hb dL_told_41 (by decide) ?_
  refine lv_iand hx hb dL_told_43 ?_
  refine lv_bipush (v := 16) hx hb dL_told_44 (by decide) ?_
  refine lv_isub hx hb dL_told_46 ?_
  obtain ⟨n8, en, hrun⟩ := lt_inv hrun
  refine k_nmi en ?_
  clear en
  obtain ⟨gz9, hrun⟩ := gd_inv hrun
  obtain ⟨w10, ew, hrun⟩ := lt_inv hrun
  refine va_iast hx hb hK hP hD hS 1 1 rfl rfl gz9 dL_told_47 (fun H locs hP hD hS => ?_)
  have hP : va_P G.1 vwCl ([(h_a1, .inl (k_cI G, 7, .inl w_a1)), (h_a4, .inl (k_cI G, 21, .inl w10)), (h_a5, .inl (k_cI G, 4, .inl w_a5))] ++ w) H := by rw [ew]; exact hP
  have hD : va_D A ([(h_a1, .inl (k_cI G, 7, .inl w_a1)), (h_a4, .inl (k_cI G, 21, .inl w10)), (h_a5, .inl (k_cI G, 4, .inl w_a5))] ++ w) := by rw [ew]; exact hD
  clear ew
  refine lv_aload hx hb dL_told_48 (lv_at hl 5 rfl) ?_
  refine lv_iconst (v := 3) hx hb dL_told_50 (by decide) ?_
  refine lv_iload hx hb dL_told_51 (lv_at hl 0 rfl) ?_
  refine lv_bipush (v := 15) hx hb dL_told_53 (by decide) ?_
  refine lv_ishr hx hb dL_told_55 ?_
  refine lv_bipush (v := 127) hx hb dL_told_56 (by decide) ?_
  refine lv_iand hx hb dL_told_58 ?_
  refine lv_bipush (v := 101) hx hb dL_told_59 (by decide) ?_
  refine lv_irem hx hb dL_told_61 (by decide) ?_
  obtain ⟨n11, en, hrun⟩ := lt_inv hrun
  refine k_nmi en ?_
  clear en
  obtain ⟨gz12, hrun⟩ := gd_inv hrun
  obtain ⟨w13, ew, hrun⟩ := lt_inv hrun
  refine va_iast hx hb hK hP hD hS 1 1 rfl rfl gz12 dL_told_62 (fun H locs hP hD hS => ?_)
  have hP : va_P G.1 vwCl ([(h_a1, .inl (k_cI G, 7, .inl w_a1)), (h_a4, .inl (k_cI G, 21, .inl w13)), (h_a5, .inl (k_cI G, 4, .inl w_a5))] ++ w) H := by rw [ew]; exact hP
  have hD : va_D A ([(h_a1, .inl (k_cI G, 7, .inl w_a1)), (h_a4, .inl (k_cI G, 21, .inl w13)), (h_a5, .inl (k_cI G, 4, .inl w_a5))] ++ w) := by rw [ew]; exact hD
  clear ew
  refine lv_aload hx hb dL_told_63 (lv_at hl 5 rfl) ?_
  refine lv_iconst (v := 4) hx hb dL_told_65 (by decide) ?_
  refine lv_iconst (v := 1) hx hb dL_told_66 (by decide) ?_
  refine lv_iload hx hb dL_told_67 (lv_at hl 0 rfl) ?_
  refine lv_bipush (v := 22) hx hb dL_told_69 (by decide) ?_
  refine lv_ishr hx hb dL_told_71 ?_
  refine lv_iconst (v := 1) hx hb dL_told_72 (by decide) ?_
  refine lv_iand hx hb dL_told_73 ?_
  refine lv_iadd hx hb dL_told_74 ?_
  obtain ⟨n14, en, hrun⟩ := lt_inv hrun
  refine k_nmi en ?_
  clear en
  obtain ⟨gz15, hrun⟩ := gd_inv hrun
  obtain ⟨w16, ew, hrun⟩ := lt_inv hrun
  refine va_iast hx hb hK hP hD hS 1 1 rfl rfl gz15 dL_told_75 (fun H locs hP hD hS => ?_)
  have hP : va_P G.1 vwCl ([(h_a1, .inl (k_cI G, 7, .inl w_a1)), (h_a4, .inl (k_cI G, 21, .inl w16)), (h_a5, .inl (k_cI G, 4, .inl w_a5))] ++ w) H := by rw [ew]; exact hP
  have hD : va_D A ([(h_a1, .inl (k_cI G, 7, .inl w_a1)), (h_a4, .inl (k_cI G, 21, .inl w16)), (h_a5, .inl (k_cI G, 4, .inl w_a5))] ++ w) := by rw [ew]; exact hD
  clear ew
  refine lv_aload hx hb dL_told_76 (lv_at hl 5 rfl) ?_
  refine lv_bipush (v := 9) hx hb dL_told_78 (by decide) ?_
  refine lv_iload hx hb dL_told_80 (lv_at hl 0 rfl) ?_
  refine lv_bipush (v := 23) hx hb dL_told_82 (by decide) ?_
  refine lv_ishr hx hb dL_told_84 ?_
  refine lv_iconst (v := 3) hx hb dL_told_85 (by decide) ?_
  refine lv_iand hx hb dL_told_86 ?_
  refine lv_iconst (v := 3) hx hb dL_told_87 (by decide) ?_
  refine lv_irem hx hb dL_told_88 (by decide) ?_
  obtain ⟨n17, en, hrun⟩ := lt_inv hrun
  refine k_nmi en ?_
  clear en
  obtain ⟨gz18, hrun⟩ := gd_inv hrun
  obtain ⟨w19, ew, hrun⟩ := lt_inv hrun
  refine va_iast hx hb hK hP hD hS 1 1 rfl rfl gz18 dL_told_89 (fun H locs hP hD hS => ?_)
  have hP : va_P G.1 vwCl ([(h_a1, .inl (k_cI G, 7, .inl w_a1)), (h_a4, .inl (k_cI G, 21, .inl w19)), (h_a5, .inl (k_cI G, 4, .inl w_a5))] ++ w) H := by rw [ew]; exact hP
  have hD : va_D A ([(h_a1, .inl (k_cI G, 7, .inl w_a1)), (h_a4, .inl (k_cI G, 21, .inl w19)), (h_a5, .inl (k_cI G, 4, .inl w_a5))] ++ w) := by rw [ew]; exact hD
  clear ew
  refine lv_aload hx hb dL_told_90 (lv_at hl 5 rfl) ?_
  refine lv_bipush (v := 14) hx hb dL_told_92 (by decide) ?_
  refine lv_iload hx hb dL_told_94 (lv_at hl 0 rfl) ?_
  refine lv_bipush (v := 25) hx hb dL_told_96 (by decide) ?_
  refine lv_ishr hx hb dL_told_98 ?_
  refine lv_iconst (v := 3) hx hb dL_told_99 (by decide) ?_
  refine lv_iand hx hb dL_told_100 ?_
  refine lv_iconst (v := 3) hx hb dL_told_101 (by decide) ?_
  refine lv_irem hx hb dL_told_102 (by decide) ?_
  obtain ⟨n20, en, hrun⟩ := lt_inv hrun
  refine k_nmi en ?_
  clear en
  obtain ⟨gz21, hrun⟩ := gd_inv hrun
  obtain ⟨w22, ew, hrun⟩ := lt_inv hrun
  refine va_iast hx hb hK hP hD hS 1 1 rfl rfl gz21 dL_told_103 (fun H locs hP hD hS => ?_)
  have hP : va_P G.1 vwCl ([(h_a1, .inl (k_cI G, 7, .inl w_a1)), (h_a4, .inl (k_cI G, 21, .inl w22)), (h_a5, .inl (k_cI G, 4, .inl w_a5))] ++ w) H := by rw [ew]; exact hP
  have hD : va_D A ([(h_a1, .inl (k_cI G, 7, .inl w_a1)), (h_a4, .inl (k_cI G, 21, .inl w22)), (h_a5, .inl (k_cI G, 4, .inl w_a5))] ++ w) := by rw [ew]; exact hD
  clear ew
  refine lv_aload_n hx hb dL_told_104 rfl (lv_at hl 3 rfl) ?_
  refine lv_iload_n hx hb dL_told_105 rfl (lv_at hl 4 rfl) ?_
  refine lv_iconst (v := 1) hx hb dL_told_106 (by decide) ?_
  refine lv_iadd hx hb dL_told_107 ?_
  obtain ⟨t23, et23, hrun⟩ := bd_inv hrun
  refine k_calli0 C0 (k_runS (rest := []) C0 (c_L_cell et23) (va_cwS 2 hts gL_told_L_cell rfl rfl rfl e_L_cell.2 ⟨Nat.le_of_ble_eq_true rfl, Nat.le_of_ble_eq_true rfl⟩) hP hD hS [] rfl (by decide) rfl hl.1 rfl (Nat.le_of_ble_eq_true rfl) dL_told_108 ⟨Nat.le_of_ble_eq_true rfl, Nat.le_of_ble_eq_true rfl⟩) hP hS (fun H locs hP hS => ?_)
  clear et23
  refine lv_istore (lv' := [(6, .int t23), (0, .ref h_o), (1, .ref h_a1), (2, .ref (k_xB G)), (3, .int p3), (4, .ref h_a4), (5, .ref h_a5)]) hx hb dL_told_111 hl (by decide) rfl (fun ls hl => ?_)
  refine lv_iconst (v := 0) hx hb dL_told_113 (by decide) ?_
  refine lv_istore (lv' := [(7, .int (0 : Int32)), (6, .int t23), (0, .ref h_o), (1, .ref h_a1), (2, .ref (k_xB G)), (3, .int p3), (4, .ref h_a4), (5, .ref h_a5)]) hx hb dL_told_114 hl (by decide) rfl (fun ls hl => ?_)
  exact t_L_told_116 C0 kFU w p3 t23 (0 : Int32) w_a1 w22 w_a5 σ _ _ _ hXW hP hD hS (lv_sub hl [2, 3, 4, 5, 6, 7, 1, 0] rfl) hrun
