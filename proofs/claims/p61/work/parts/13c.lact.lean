def f_L_act_261 (x4 : Int32) (x5 : Int32) (x7 : Int32) (s1 : Int32) (s2 : Int32) (s3 : Int32) (w_a1 : Nat → Int32) (w_a2 : Nat → Int32) (σ : k_SB) : Option (Int32 × (Nat → Int32) × k_SB) :=
  lt (s2 + s3) fun n1 =>
  gd (inR s1 4) <|
  lt (upd w_a2 s1.toNatClampNeg n1) fun w3 =>
  bd (fx_grow x4 x7 σ) fun t4 =>
  lt (ux_grow σ t4) fun σ5 =>
  if t4.1 = (x5 + (1 : Int32)) then
    some ((1 : Int32), w3, σ5)
  else
    some ((-1 : Int32), w3, σ5)
def f_L_act_228 (x4 : Int32) (x5 : Int32) (s0 : Int32) (w_a1 : Nat → Int32) (w_a2 : Nat → Int32) (σ : k_SB) : Option (Int32 × (Nat → Int32) × k_SB) :=
  gd (inR x4 4) <|
  lt ((w_a2 x4.toNatClampNeg) + (1 : Int32)) fun n2 =>
  gd (inR x4 4) <|
  lt (upd w_a2 x4.toNatClampNeg n2) fun w4 =>
  gd (inR ((2 : Int32) + x4) 4) <|
  if s0 = 0 then
    f_L_act_261 x4 x5 s0 ((2 : Int32) + x4) ((2 : Int32) * (w4 ((2 : Int32) + x4).toNatClampNeg)) (0 : Int32) w_a1 w4 σ
  else
    f_L_act_261 x4 x5 s0 ((2 : Int32) + x4) ((2 : Int32) * (w4 ((2 : Int32) + x4).toNatClampNeg)) (1 : Int32) w_a1 w4 σ
def f_L_act (p3 : Int32) (w_a1 : Nat → Int32) (w_a2 : Nat → Int32) (σ : k_SB) : Option (Int32 × (Nat → Int32) × k_SB) :=
  gd (inR (4 : Int32) 21) <|
  gd (¬ (w_a1 (4 : Int32).toNatClampNeg) = 0) <|
  lt (((p3 >>> ((3 : Int32) &&& 31)) &&& (1 : Int32)) - ((p3 >>> ((3 : Int32) &&& 31)) &&& (1 : Int32)) / (w_a1 (4 : Int32).toNatClampNeg) * (w_a1 (4 : Int32).toNatClampNeg)) fun n3 =>
  gd (inR n3 4) <|
  lt (w_a2 n3.toNatClampNeg) fun n5 =>
  lt (p3 &&& (7 : Int32)) fun n6 =>
  if (3 : Int32) ≤ n6 then
    (if n6 = (3 : Int32) then
       (gd (inR ((2 : Int32) + n3) 4) <|
        bd (f_L_look n5 (w_a2 ((2 : Int32) + n3).toNatClampNeg) (1 : Int32) (0 : Int32) (0 : Int32)) fun t52 =>
        gd (inR ((2 : Int32) + n3) 4) <|
        lt (upd w_a2 ((2 : Int32) + n3).toNatClampNeg t52) fun w54 =>
        bd (fx_turn n3 σ) fun t55 =>
        lt (ux_turn σ t55) fun σ56 =>
        gd (inR ((2 : Int32) + n3) 4) <|
        if t55.1 = (w54 ((2 : Int32) + n3).toNatClampNeg) then
          some ((1 : Int32), w54, σ56)
        else
          some ((-1 : Int32), w54, σ56))
     else
       (if n6 = (4 : Int32) then
          (gd (inR ((2 : Int32) + n3) 4) <|
           bd (f_L_look n5 (w_a2 ((2 : Int32) + n3).toNatClampNeg) (0 : Int32) (1 : Int32) (0 : Int32)) fun t43 =>
           gd (inR ((2 : Int32) + n3) 4) <|
           lt (upd w_a2 ((2 : Int32) + n3).toNatClampNeg t43) fun w45 =>
           bd (fx_twin n3 σ) fun t46 =>
           lt (ux_twin σ t46) fun σ47 =>
           gd (inR ((2 : Int32) + n3) 4) <|
           if t46.1 = (w45 ((2 : Int32) + n3).toNatClampNeg) then
             some ((1 : Int32), w45, σ47)
           else
             some ((-1 : Int32), w45, σ47))
        else
          (if n6 = (5 : Int32) then
             (if n5 = (12 : Int32) then
                (bd (fx_grow n3 (1 : Int32) σ) fun t34 =>
                 lt (ux_grow σ t34) fun σ35 =>
                 if t34.1 = (-1 : Int32) then
                   (bd (fx_trouble σ35) fun t38 =>
                    lt (ux_trouble σ35 t38) fun σ39 =>
                    if t38 = (3 : Int32) then
                      some ((0 : Int32), w_a2, σ39)
                    else
                      some ((-1 : Int32), w_a2, σ39))
                 else
                   some ((-1 : Int32), w_a2, σ35))
              else
                (if ((p3 >>> ((4 : Int32) &&& 31)) &&& (1 : Int32)) = (1 : Int32) then
                   f_L_act_228 n3 n5 (1 : Int32) w_a1 w_a2 σ
                 else
                   f_L_act_228 n3 n5 (0 : Int32) w_a1 w_a2 σ))
           else
             (if n5 = (2 : Int32) then
                (bd (fx_cut n3 σ) fun t24 =>
                 lt (ux_cut σ t24) fun σ25 =>
                 if t24.1 = (-1 : Int32) then
                   (bd (fx_trouble σ25) fun t28 =>
                    lt (ux_trouble σ25 t28) fun σ29 =>
                    if t28 = (5 : Int32) then
                      some ((0 : Int32), w_a2, σ29)
                    else
                      some ((-1 : Int32), w_a2, σ29))
                 else
                   some ((-1 : Int32), w_a2, σ25))
              else
                (gd (inR n3 4) <|
                 lt ((w_a2 n3.toNatClampNeg) - (1 : Int32)) fun n13 =>
                 gd (inR n3 4) <|
                 lt (upd w_a2 n3.toNatClampNeg n13) fun w15 =>
                 gd (inR ((2 : Int32) + n3) 4) <|
                 lt ((w15 ((2 : Int32) + n3).toNatClampNeg) / (2 : Int32)) fun n17 =>
                 gd (inR ((2 : Int32) + n3) 4) <|
                 lt (upd w15 ((2 : Int32) + n3).toNatClampNeg n17) fun w19 =>
                 bd (fx_cut n3 σ) fun t20 =>
                 lt (ux_cut σ t20) fun σ21 =>
                 if t20.1 = (n5 - (1 : Int32)) then
                   some ((1 : Int32), w19, σ21)
                 else
                   some ((-1 : Int32), w19, σ21))))))
  else
    (gd (¬ n5 = 0) <|
     lt (((p3 >>> ((4 : Int32) &&& 31)) &&& (15 : Int32)) - ((p3 >>> ((4 : Int32) &&& 31)) &&& (15 : Int32)) / n5 * n5) fun n61 =>
     gd (inR ((2 : Int32) + n3) 4) <|
     bd (f_L_slipped n5 (w_a2 ((2 : Int32) + n3).toNatClampNeg) n61) fun t63 =>
     gd (inR ((2 : Int32) + n3) 4) <|
     lt (upd w_a2 ((2 : Int32) + n3).toNatClampNeg t63) fun w65 =>
     bd (fx_slip n3 n61 σ) fun t66 =>
     lt (ux_slip σ t66) fun σ67 =>
     gd (inR ((2 : Int32) + n3) 4) <|
     if t66.1 = (w65 ((2 : Int32) + n3).toNatClampNeg) then
       some ((1 : Int32), w65, σ67)
     else
       some ((-1 : Int32), w65, σ67))
abbrev rm_L_act : Room := { frames := 5, cells := 0, slots := 0, locals := 112 }
theorem e_L_act : yL_act.cls = RL ∧ yL_act.cls ≠ "java/lang/invoke/MethodHandle" ∧ yL_act.cls ≠ "java/lang/invoke/VarHandle" ∧ (parseMethodDescriptor yL_act.desc).map (fun d => d.parameters.length) = some 4 := by decide +kernel
set_option maxHeartbeats 4000000 in
set_option maxRecDepth 100000 in
theorem t_L_act_261 {l : Launch} {G : k_G} {p : Program} {e : Env} {s : State} {m : MethodId} {args : Array Value} {below : List Frame} {meth : Method} {c : Code} {A : Nat → Prop} {h_a1 h_a2 h_o : Nat} {out : Int32 × (Nat → Int32) × k_SB} (C0 : k_C G p s m args meth c A cL_act RL wsL_act 8 (some .int) "act") : ∀ (w : va_W) (x4 : Int32) (x5 : Int32) (x7 : Int32) (s1 : Int32) (s2 : Int32) (s3 : Int32) (w_a1 : Nat → Int32) (w_a2 : Nat → Int32) (σ : k_SB) (H : Heap) (locs : List Loc) (ls : Array Slot), XW G h_o σ w → va_P G.1 vwCl ([(h_a1, .inl (k_cI G, 21, .inl w_a1)), (h_a2, .inl (k_cI G, 4, .inl w_a2))] ++ w) H → va_D A ([(h_a1, .inl (k_cI G, 21, .inl w_a1)), (h_a2, .inl (k_cI G, 4, .inl w_a2))] ++ w) → va_S A s.heap H locs → lv_has ls 8 [(0, .ref h_o), (4, .int x4), (5, .int x5), (7, .int x7)] → f_L_act_261 x4 x5 x7 s1 s2 s3 w_a1 w_a2 σ = some out → W p l e rm_L_act s m args below meth c H locs 0 0 (MQ below (va_Qi (fun r (u9 : va_W) => r = out.1 ∧ (fun u9 : va_W => ∃ w9, u9 = [(h_a1, .inl (k_cI G, 21, .inl w_a1)), (h_a2, .inl (k_cI G, 4, .inl out.2.1))] ++ w9 ∧ XW G h_o out.2.2 w9) u9) (fun u9 t => k_PB G A u9 t) A) args s 0 0 A) (F0 m 261 ls [.int s3, .int s2, .int s1, .ref h_a2]) := by
  have hx := C0.1
  have hb := C0.2.1
  have hts := C0.2.2.2.1
  have hown := C0.2.2.2.2.1
  have hK := C0.2.2.2.2.2.2.2.2.1.1
  have hNW := C0.2.2.2.2.2.2.2.2.1.2.1
  have hSF := C0.2.2.2.2.2.2.2.2.1.2.2
  intro w x4 x5 x7 s1 s2 s3 w_a1 w_a2 σ H locs ls hXW hP hD hS hl hrun
  rw [f_L_act_261] at hrun
  refine lv_iadd hx hb dL_act_261 ?_
  obtain ⟨n1, en, hrun⟩ := lt_inv hrun
  refine k_nmi en ?_
  clear en
  obtain ⟨gz2, hrun⟩ := gd_inv hrun
  obtain ⟨w3, ew, hrun⟩ := lt_inv hrun
  refine va_iast hx hb hK hP hD hS 1 1 rfl rfl gz2 dL_act_262 (fun H locs hP hD hS => ?_)
  have hP : va_P G.1 vwCl ([(h_a1, .inl (k_cI G, 21, .inl w_a1)), (h_a2, .inl (k_cI G, 4, .inl w3))] ++ w) H := by rw [ew]; exact hP
  have hD : va_D A ([(h_a1, .inl (k_cI G, 21, .inl w_a1)), (h_a2, .inl (k_cI G, 4, .inl w3))] ++ w) := by rw [ew]; exact hD
  clear ew
  refine lv_aload_n hx hb dL_act_263 rfl (lv_at hl 0 rfl) ?_
  refine lv_iload hx hb dL_act_264 (lv_at hl 1 rfl) ?_
  refine lv_iload hx hb dL_act_266 (lv_at hl 3 rfl) ?_
  obtain ⟨t4, et4, hrun⟩ := bd_inv hrun
  obtain ⟨σ5, eσ5, hrun⟩ := lt_inv hrun
  obtain ⟨fs9, he9⟩ := XW_head hXW
  refine lw_callVi (wr := [(h_a1, .inl (k_cI G, 21, .inl w_a1)), (h_a2, .inl (k_cI G, 4, .inl w3))]) (rest := []) C0 (lx_grow hXW et4 H.size) (cwV 2 hts gL_act_X11_grow rfl rfl rfl e_X11_grow ⟨Nat.le_of_ble_eq_true rfl, Nat.le_of_ble_eq_true rfl⟩) hP hD hS rfl rfl he9 rfl hl.1 rfl (Nat.le_of_ble_eq_true rfl) dL_act_268 ⟨Nat.le_of_ble_eq_true rfl, Nat.le_of_ble_eq_true rfl⟩ (fun w6 H locs hXW hP hD hS => ?_)
  replace hXW : XW G h_o σ5 w6 := by rw [eσ5]; exact hXW
  clear et4 eσ5 he9
  refine lv_iload hx hb dL_act_271 (lv_at hl 2 rfl) ?_
  refine lv_iconst (v := 1) hx hb dL_act_273 (by decide) ?_
  refine lv_iadd hx hb dL_act_274 ?_
  refine lv_icmp_ne (tgt := 282) hx hb dL_act_275 (by decide) (fun q7 => ?_) (fun q7 => ?_)
  · replace hrun := if_f q7 hrun
    refine lv_iconst (v := -1) hx hb dL_act_282 (by decide) ?_
    obtain rfl := Option.some.inj hrun
    exact kd_reti C0 hP hD hS ⟨w6, rfl, hXW⟩ rfl dL_act_283
  · replace hrun := if_t q7 hrun
    refine lv_iconst (v := 1) hx hb dL_act_278 (by decide) ?_
    refine lv_goto (tgt := 283) hx hb dL_act_279 (by decide) ?_
    obtain rfl := Option.some.inj hrun
    exact kd_reti C0 hP hD hS ⟨w6, rfl, hXW⟩ rfl dL_act_283
set_option maxHeartbeats 4000000 in
set_option maxRecDepth 100000 in
theorem t_L_act_228 {l : Launch} {G : k_G} {p : Program} {e : Env} {s : State} {m : MethodId} {args : Array Value} {below : List Frame} {meth : Method} {c : Code} {A : Nat → Prop} {h_a1 h_a2 h_o : Nat} {out : Int32 × (Nat → Int32) × k_SB} (C0 : k_C G p s m args meth c A cL_act RL wsL_act 8 (some .int) "act") : ∀ (w : va_W) (x4 : Int32) (x5 : Int32) (s0 : Int32) (w_a1 : Nat → Int32) (w_a2 : Nat → Int32) (σ : k_SB) (H : Heap) (locs : List Loc) (ls : Array Slot), XW G h_o σ w → va_P G.1 vwCl ([(h_a1, .inl (k_cI G, 21, .inl w_a1)), (h_a2, .inl (k_cI G, 4, .inl w_a2))] ++ w) H → va_D A ([(h_a1, .inl (k_cI G, 21, .inl w_a1)), (h_a2, .inl (k_cI G, 4, .inl w_a2))] ++ w) → va_S A s.heap H locs → lv_has ls 8 [(0, .ref h_o), (2, .ref h_a2), (4, .int x4), (5, .int x5)] → f_L_act_228 x4 x5 s0 w_a1 w_a2 σ = some out → W p l e rm_L_act s m args below meth c H locs 0 0 (MQ below (va_Qi (fun r (u9 : va_W) => r = out.1 ∧ (fun u9 : va_W => ∃ w9, u9 = [(h_a1, .inl (k_cI G, 21, .inl w_a1)), (h_a2, .inl (k_cI G, 4, .inl out.2.1))] ++ w9 ∧ XW G h_o out.2.2 w9) u9) (fun u9 t => k_PB G A u9 t) A) args s 0 0 A) (F0 m 228 ls [.int s0]) := by
  have hx := C0.1
  have hb := C0.2.1
  have hts := C0.2.2.2.1
  have hown := C0.2.2.2.2.1
  have hK := C0.2.2.2.2.2.2.2.2.1.1
  have hNW := C0.2.2.2.2.2.2.2.2.1.2.1
  have hSF := C0.2.2.2.2.2.2.2.2.1.2.2
  intro w x4 x5 s0 w_a1 w_a2 σ H locs ls hXW hP hD hS hl hrun
  rw [f_L_act_228] at hrun
  refine lv_istore (lv' := [(7, .int s0), (0, .ref h_o), (2, .ref h_a2), (4, .int x4), (5, .int x5)]) hx hb dL_act_228 hl (by decide) rfl (fun ls hl => ?_)
  refine lv_aload_n hx hb dL_act_230 rfl (lv_at hl 2 rfl) ?_
  refine lv_iload hx hb dL_act_231 (lv_at hl 3 rfl) ?_
  refine lv_dup2_11 hx hb dL_act_233 rfl rfl ?_
  obtain ⟨gz1, hrun⟩ := gd_inv hrun
  refine va_iald hx hb hK hP 1 1 rfl rfl gz1 dL_act_234 ?_
  refine lv_iconst (v := 1) hx hb dL_act_235 (by decide) ?_
  refine lv_iadd hx hb dL_act_236 ?_
  obtain ⟨n2, en, hrun⟩ := lt_inv hrun
  refine k_nmi en ?_
  clear en
  obtain ⟨gz3, hrun⟩ := gd_inv hrun
  obtain ⟨w4, ew, hrun⟩ := lt_inv hrun
  refine va_iast hx hb hK hP hD hS 1 1 rfl rfl gz3 dL_act_237 (fun H locs hP hD hS => ?_)
  have hP : va_P G.1 vwCl ([(h_a1, .inl (k_cI G, 21, .inl w_a1)), (h_a2, .inl (k_cI G, 4, .inl w4))] ++ w) H := by rw [ew]; exact hP
  have hD : va_D A ([(h_a1, .inl (k_cI G, 21, .inl w_a1)), (h_a2, .inl (k_cI G, 4, .inl w4))] ++ w) := by rw [ew]; exact hD
  clear ew
  refine lv_aload_n hx hb dL_act_238 rfl (lv_at hl 2 rfl) ?_
  refine lv_iconst (v := 2) hx hb dL_act_239 (by decide) ?_
  refine lv_iload hx hb dL_act_240 (lv_at hl 3 rfl) ?_
  refine lv_iadd hx hb dL_act_242 ?_
  refine lv_iconst (v := 2) hx hb dL_act_243 (by decide) ?_
  refine lv_aload_n hx hb dL_act_244 rfl (lv_at hl 2 rfl) ?_
  refine lv_iconst (v := 2) hx hb dL_act_245 (by decide) ?_
  refine lv_iload hx hb dL_act_246 (lv_at hl 3 rfl) ?_
  refine lv_iadd hx hb dL_act_248 ?_
  obtain ⟨gz5, hrun⟩ := gd_inv hrun
  refine va_iald hx hb hK hP 1 1 rfl rfl gz5 dL_act_249 ?_
  refine lv_imul hx hb dL_act_250 ?_
  refine lv_iload hx hb dL_act_251 (lv_at hl 0 rfl) ?_
  refine lv_if_eq (tgt := 260) hx hb dL_act_253 (by decide) (fun q6 => ?_) (fun q6 => ?_)
  · replace hrun := if_t q6 hrun
    refine lv_iconst (v := 0) hx hb dL_act_260 (by decide) ?_
    exact t_L_act_261 C0 w x4 x5 s0 ((2 : Int32) + x4) ((2 : Int32) * (w4 ((2 : Int32) + x4).toNatClampNeg)) (0 : Int32) w_a1 w4 σ _ _ _ hXW hP hD hS (lv_sub hl [1, 3, 4, 0] rfl) hrun
  · replace hrun := if_f q6 hrun
    refine lv_iconst (v := 1) hx hb dL_act_256 (by decide) ?_
    refine lv_goto (tgt := 261) hx hb dL_act_257 (by decide) ?_
    exact t_L_act_261 C0 w x4 x5 s0 ((2 : Int32) + x4) ((2 : Int32) * (w4 ((2 : Int32) + x4).toNatClampNeg)) (1 : Int32) w_a1 w4 σ _ _ _ hXW hP hD hS (lv_sub hl [1, 3, 4, 0] rfl) hrun
set_option maxHeartbeats 4000000 in
set_option maxRecDepth 100000 in
theorem c_L_act {l : Launch} {G : k_G} {h_a1 h_a2 h_o : Nat} {p3 : Int32} {w_a1 : Nat → Int32} {w_a2 : Nat → Int32} {σ : k_SB} {w : va_W} {out : Int32 × (Nat → Int32) × k_SB} (hXW : XW G h_o σ w) (hrun : f_L_act p3 w_a1 w_a2 σ = some out) (sz : Nat) : k_Di l G yL_act wsL_act rm_L_act [.ref h_o, .ref h_a1, .ref h_a2, .int p3] ([(h_a1, .inl (k_cI G, 21, .inl w_a1)), (h_a2, .inl (k_cI G, 4, .inl w_a2))] ++ w) sz out.1 (fun u9 : va_W => ∃ w9, u9 = [(h_a1, .inl (k_cI G, 21, .inl w_a1)), (h_a2, .inl (k_cI G, 4, .inl out.2.1))] ++ w9 ∧ XW G h_o out.2.2 w9) 0 0 := by
  refine k_of (cc := cL_act) (nL := 8) (ret := some .int) (own := RL) (nm := "act") (by decide) rfl rfl rfl rfl ?_
  intro p e s m args below meth c ls hsz C0 hP hD hS hl
  have hl : lv_has ls 8 [(0, .ref h_o), (1, .ref h_a1), (2, .ref h_a2), (3, .int p3)] := hl
  generalize hH : s.heap = H at hP
  have hS : va_S (va_A ([(h_a1, .inl (k_cI G, 21, .inl w_a1)), (h_a2, .inl (k_cI G, 4, .inl w_a2))] ++ w) sz) s.heap H [] := by rw [← hH]; exact hS
  clear hH
  generalize va_A ([(h_a1, .inl (k_cI G, 21, .inl w_a1)), (h_a2, .inl (k_cI G, 4, .inl w_a2))] ++ w) sz = A at C0 hD hS ⊢
  have hx := C0.1
  have hb := C0.2.1
  have hts := C0.2.2.2.1
  have hown := C0.2.2.2.2.1
  have hK := C0.2.2.2.2.2.2.2.2.1.1
  have hNW := C0.2.2.2.2.2.2.2.2.1.2.1
  have hSF := C0.2.2.2.2.2.2.2.2.1.2.2
  rw [f_L_act] at hrun
  refine lv_iload_n hx hb dL_act_0 rfl (lv_at hl 3 rfl) ?_
  refine lv_iconst (v := 3) hx hb dL_act_1 (by decide) ?_
  refine lv_ishr hx hb dL_act_2 ?_
  refine lv_iconst (v := 1) hx hb dL_act_3 (by decide) ?_
  refine lv_iand hx hb dL_act_4 ?_
  refine lv_aload_n hx hb dL_act_5 rfl (lv_at hl 1 rfl) ?_
  refine lv_iconst (v := 4) hx hb dL_act_6 (by decide) ?_
  obtain ⟨gz1, hrun⟩ := gd_inv hrun
  refine va_iald hx hb hK hP 0 1 rfl rfl gz1 dL_act_7 ?_
  obtain ⟨gz2, hrun⟩ := gd_inv hrun
  refine lv_irem hx hb dL_act_8 gz2 ?_
  obtain ⟨n3, en, hrun⟩ := lt_inv hrun
  refine k_nmi en ?_
  clear en
  refine lv_istore (lv' := [(4, .int n3), (0, .ref h_o), (1, .ref h_a1), (2, .ref h_a2), (3, .int p3)]) hx hb dL_act_9 hl (by decide) rfl (fun ls hl => ?_)
  refine lv_aload_n hx hb dL_act_11 rfl (lv_at hl 3 rfl) ?_
  refine lv_iload hx hb dL_act_12 (lv_at hl 0 rfl) ?_
  obtain ⟨gz4, hrun⟩ := gd_inv hrun
  refine va_iald hx hb hK hP 1 1 rfl rfl gz4 dL_act_14 ?_
  obtain ⟨n5, en, hrun⟩ := lt_inv hrun
  refine k_nmi en ?_
  clear en
  refine lv_istore (lv' := [(5, .int n5), (4, .int n3), (0, .ref h_o), (1, .ref h_a1), (2, .ref h_a2), (3, .int p3)]) hx hb dL_act_15 hl (by decide) rfl (fun ls hl => ?_)
  refine lv_iload_n hx hb dL_act_17 rfl (lv_at hl 5 rfl) ?_
  refine lv_bipush (v := 7) hx hb dL_act_18 (by decide) ?_
  refine lv_iand hx hb dL_act_20 ?_
  obtain ⟨n6, en, hrun⟩ := lt_inv hrun
  refine k_nmi en ?_
  clear en
  refine lv_istore (lv' := [(6, .int n6), (5, .int n5), (4, .int n3), (0, .ref h_o), (1, .ref h_a1), (2, .ref h_a2), (3, .int p3)]) hx hb dL_act_21 hl (by decide) rfl (fun ls hl => ?_)
  refine lv_iload hx hb dL_act_23 (lv_at hl 0 rfl) ?_
  refine lv_iconst (v := 3) hx hb dL_act_25 (by decide) ?_
  refine lv_icmp_ge (tgt := 82) hx hb dL_act_26 (by decide) (fun q7 => ?_) (fun q7 => ?_)
  · replace hrun := if_t q7 hrun
    refine lv_iload hx hb dL_act_82 (lv_at hl 0 rfl) ?_
    refine lv_iconst (v := 3) hx hb dL_act_84 (by decide) ?_
    refine lv_icmp_ne (tgt := 129) hx hb dL_act_85 (by decide) (fun q8 => ?_) (fun q8 => ?_)
    · replace hrun := if_f q8 hrun
      refine lv_iload hx hb dL_act_129 (lv_at hl 0 rfl) ?_
      refine lv_iconst (v := 4) hx hb dL_act_131 (by decide) ?_
      refine lv_icmp_ne (tgt := 176) hx hb dL_act_132 (by decide) (fun q9 => ?_) (fun q9 => ?_)
      · replace hrun := if_f q9 hrun
        refine lv_iload hx hb dL_act_176 (lv_at hl 0 rfl) ?_
        refine lv_iconst (v := 5) hx hb dL_act_178 (by decide) ?_
        refine lv_icmp_ne (tgt := 284) hx hb dL_act_179 (by decide) (fun q10 => ?_) (fun q10 => ?_)
        · replace hrun := if_f q10 hrun
          refine lv_iload hx hb dL_act_284 (lv_at hl 1 rfl) ?_
          refine lv_iconst (v := 2) hx hb dL_act_286 (by decide) ?_
          refine lv_icmp_ne (tgt := 314) hx hb dL_act_287 (by decide) (fun q11 => ?_) (fun q11 => ?_)
          · replace hrun := if_f q11 hrun
            refine lv_aload_n hx hb dL_act_314 rfl (lv_at hl 5 rfl) ?_
            refine lv_iload hx hb dL_act_315 (lv_at hl 2 rfl) ?_
            refine lv_dup2_11 hx hb dL_act_317 rfl rfl ?_
            obtain ⟨gz12, hrun⟩ := gd_inv hrun
            refine va_iald hx hb hK hP 1 1 rfl rfl gz12 dL_act_318 ?_
            refine lv_iconst (v := 1) hx hb dL_act_319 (by decide) ?_
            refine lv_isub hx hb dL_act_320 ?_
            obtain ⟨n13, en, hrun⟩ := lt_inv hrun
            refine k_nmi en ?_
            clear en
            obtain ⟨gz14, hrun⟩ := gd_inv hrun
            obtain ⟨w15, ew, hrun⟩ := lt_inv hrun
            refine va_iast hx hb hK hP hD hS 1 1 rfl rfl gz14 dL_act_321 (fun H locs hP hD hS => ?_)
            have hP : va_P G.1 vwCl ([(h_a1, .inl (k_cI G, 21, .inl w_a1)), (h_a2, .inl (k_cI G, 4, .inl w15))] ++ w) H := by rw [ew]; exact hP
            have hD : va_D A ([(h_a1, .inl (k_cI G, 21, .inl w_a1)), (h_a2, .inl (k_cI G, 4, .inl w15))] ++ w) := by rw [ew]; exact hD
            clear ew
            refine lv_aload_n hx hb dL_act_322 rfl (lv_at hl 5 rfl) ?_
            refine lv_iconst (v := 2) hx hb dL_act_323 (by decide) ?_
            refine lv_iload hx hb dL_act_324 (lv_at hl 2 rfl) ?_
            refine lv_iadd hx hb dL_act_326 ?_
            refine lv_dup2_11 hx hb dL_act_327 rfl rfl ?_
            obtain ⟨gz16, hrun⟩ := gd_inv hrun
            refine va_iald hx hb hK hP 1 1 rfl rfl gz16 dL_act_328 ?_
            refine lv_iconst (v := 2) hx hb dL_act_329 (by decide) ?_
            refine lv_idiv hx hb dL_act_330 (by decide) ?_
            obtain ⟨n17, en, hrun⟩ := lt_inv hrun
            refine k_nmi en ?_
            clear en
            obtain ⟨gz18, hrun⟩ := gd_inv hrun
            obtain ⟨w19, ew, hrun⟩ := lt_inv hrun
            refine va_iast hx hb hK hP hD hS 1 1 rfl rfl gz18 dL_act_331 (fun H locs hP hD hS => ?_)
            have hP : va_P G.1 vwCl ([(h_a1, .inl (k_cI G, 21, .inl w_a1)), (h_a2, .inl (k_cI G, 4, .inl w19))] ++ w) H := by rw [ew]; exact hP
            have hD : va_D A ([(h_a1, .inl (k_cI G, 21, .inl w_a1)), (h_a2, .inl (k_cI G, 4, .inl w19))] ++ w) := by rw [ew]; exact hD
            clear ew
            refine lv_aload_n hx hb dL_act_332 rfl (lv_at hl 3 rfl) ?_
            refine lv_iload hx hb dL_act_333 (lv_at hl 2 rfl) ?_
            obtain ⟨t20, et20, hrun⟩ := bd_inv hrun
            obtain ⟨σ21, eσ21, hrun⟩ := lt_inv hrun
            obtain ⟨fs9, he9⟩ := XW_head hXW
            refine lw_callVi (wr := [(h_a1, .inl (k_cI G, 21, .inl w_a1)), (h_a2, .inl (k_cI G, 4, .inl w19))]) (rest := []) C0 (lx_cut hXW et20 H.size) (cwV 1 hts gL_act_X11_cut rfl rfl rfl e_X11_cut ⟨Nat.le_of_ble_eq_true rfl, Nat.le_of_ble_eq_true rfl⟩) hP hD hS rfl rfl he9 rfl hl.1 rfl (Nat.le_of_ble_eq_true rfl) dL_act_335 ⟨Nat.le_of_ble_eq_true rfl, Nat.le_of_ble_eq_true rfl⟩ (fun w22 H locs hXW hP hD hS => ?_)
            replace hXW : XW G h_o σ21 w22 := by rw [eσ21]; exact hXW
            clear et20 eσ21 he9
            refine lv_iload hx hb dL_act_338 (lv_at hl 1 rfl) ?_
            refine lv_iconst (v := 1) hx hb dL_act_340 (by decide) ?_
            refine lv_isub hx hb dL_act_341 ?_
            refine lv_icmp_ne (tgt := 349) hx hb dL_act_342 (by decide) (fun q23 => ?_) (fun q23 => ?_)
            · replace hrun := if_f q23 hrun
              refine lv_iconst (v := -1) hx hb dL_act_349 (by decide) ?_
              obtain rfl := Option.some.inj hrun
              exact kd_reti C0 hP hD hS ⟨w22, rfl, hXW⟩ rfl dL_act_350
            · replace hrun := if_t q23 hrun
              refine lv_iconst (v := 1) hx hb dL_act_345 (by decide) ?_
              refine lv_goto (tgt := 350) hx hb dL_act_346 (by decide) ?_
              obtain rfl := Option.some.inj hrun
              exact kd_reti C0 hP hD hS ⟨w22, rfl, hXW⟩ rfl dL_act_350
          · replace hrun := if_t q11 hrun
            refine lv_aload_n hx hb dL_act_290 rfl (lv_at hl 3 rfl) ?_
            refine lv_iload hx hb dL_act_291 (lv_at hl 2 rfl) ?_
            obtain ⟨t24, et24, hrun⟩ := bd_inv hrun
            obtain ⟨σ25, eσ25, hrun⟩ := lt_inv hrun
            obtain ⟨fs9, he9⟩ := XW_head hXW
            refine lw_callVi (wr := [(h_a1, .inl (k_cI G, 21, .inl w_a1)), (h_a2, .inl (k_cI G, 4, .inl w_a2))]) (rest := []) C0 (lx_cut hXW et24 H.size) (cwV 1 hts gL_act_X11_cut rfl rfl rfl e_X11_cut ⟨Nat.le_of_ble_eq_true rfl, Nat.le_of_ble_eq_true rfl⟩) hP hD hS rfl rfl he9 rfl hl.1 rfl (Nat.le_of_ble_eq_true rfl) dL_act_293 ⟨Nat.le_of_ble_eq_true rfl, Nat.le_of_ble_eq_true rfl⟩ (fun w26 H locs hXW hP hD hS => ?_)
            replace hXW : XW G h_o σ25 w26 := by rw [eσ25]; exact hXW
            clear et24 eσ25 he9
            refine lv_iconst (v := -1) hx hb dL_act_296 (by decide) ?_
            refine lv_icmp_ne (tgt := 308) hx hb dL_act_297 (by decide) (fun q27 => ?_) (fun q27 => ?_)
            · replace hrun := if_f q27 hrun
              refine lv_iconst (v := -1) hx hb dL_act_308 (by decide) ?_
              refine lv_goto (tgt := 313) hx hb dL_act_309 (by decide) ?_
              obtain rfl := Option.some.inj hrun
              exact kd_reti C0 hP hD hS ⟨w26, rfl, hXW⟩ rfl dL_act_313
            · replace hrun := if_t q27 hrun
              refine lv_aload_n hx hb dL_act_300 rfl (lv_at hl 3 rfl) ?_
              obtain ⟨t28, et28, hrun⟩ := bd_inv hrun
              obtain ⟨σ29, eσ29, hrun⟩ := lt_inv hrun
              obtain ⟨fs9, he9⟩ := XW_head hXW
              refine lw_callVi (wr := [(h_a1, .inl (k_cI G, 21, .inl w_a1)), (h_a2, .inl (k_cI G, 4, .inl w_a2))]) (rest := []) C0 (lx_trouble hXW et28 H.size) (cwV 0 hts gL_act_X11_trouble rfl rfl rfl e_X11_trouble ⟨Nat.le_of_ble_eq_true rfl, Nat.le_of_ble_eq_true rfl⟩) hP hD hS rfl rfl he9 rfl hl.1 rfl (Nat.le_of_ble_eq_true rfl) dL_act_301 ⟨Nat.le_of_ble_eq_true rfl, Nat.le_of_ble_eq_true rfl⟩ (fun w30 H locs hXW hP hD hS => ?_)
              replace hXW : XW G h_o σ29 w30 := by rw [eσ29]; exact hXW
              clear et28 eσ29 he9
              refine lv_iconst (v := 5) hx hb dL_act_304 (by decide) ?_
              refine lv_icmp_eq (tgt := 312) hx hb dL_act_305 (by decide) (fun q31 => ?_) (fun q31 => ?_)
              · replace hrun := if_t q31 hrun
                refine lv_iconst (v := 0) hx hb dL_act_312 (by decide) ?_
                obtain rfl := Option.some.inj hrun
                exact kd_reti C0 hP hD hS ⟨w30, rfl, hXW⟩ rfl dL_act_313
              · replace hrun := if_f q31 hrun
                refine lv_iconst (v := -1) hx hb dL_act_308 (by decide) ?_
                refine lv_goto (tgt := 313) hx hb dL_act_309 (by decide) ?_
                obtain rfl := Option.some.inj hrun
                exact kd_reti C0 hP hD hS ⟨w30, rfl, hXW⟩ rfl dL_act_313
        · replace hrun := if_t q10 hrun
          refine lv_iload hx hb dL_act_182 (lv_at hl 1 rfl) ?_
          refine lv_bipush (v := 12) hx hb dL_act_184 (by decide) ?_
          refine lv_icmp_ne (tgt := 214) hx hb dL_act_186 (by decide) (fun q32 => ?_) (fun q32 => ?_)
          · replace hrun := if_f q32 hrun
            refine lv_iload_n hx hb dL_act_214 rfl (lv_at hl 6 rfl) ?_
            refine lv_iconst (v := 4) hx hb dL_act_215 (by decide) ?_
            refine lv_ishr hx hb dL_act_216 ?_
            refine lv_iconst (v := 1) hx hb dL_act_217 (by decide) ?_
            refine lv_iand hx hb dL_act_218 ?_
            refine lv_iconst (v := 1) hx hb dL_act_219 (by decide) ?_
            refine lv_icmp_ne (tgt := 227) hx hb dL_act_220 (by decide) (fun q33 => ?_) (fun q33 => ?_)
            · replace hrun := if_f q33 hrun
              refine lv_iconst (v := 0) hx hb dL_act_227 (by decide) ?_
              exact t_L_act_228 C0 w n3 n5 (0 : Int32) w_a1 w_a2 σ _ _ _ hXW hP hD hS (lv_sub hl [3, 5, 2, 1] rfl) hrun
            · replace hrun := if_t q33 hrun
              refine lv_iconst (v := 1) hx hb dL_act_223 (by decide) ?_
              refine lv_goto (tgt := 228) hx hb dL_act_224 (by decide) ?_
              exact t_L_act_228 C0 w n3 n5 (1 : Int32) w_a1 w_a2 σ _ _ _ hXW hP hD hS (lv_sub hl [3, 5, 2, 1] rfl) hrun
          · replace hrun := if_t q32 hrun
            refine lv_aload_n hx hb dL_act_189 rfl (lv_at hl 3 rfl) ?_
            refine lv_iload hx hb dL_act_190 (lv_at hl 2 rfl) ?_
            refine lv_iconst (v := 1) hx hb dL_act_192 (by decide) ?_
            obtain ⟨t34, et34, hrun⟩ := bd_inv hrun
            obtain ⟨σ35, eσ35, hrun⟩ := lt_inv hrun
            obtain ⟨fs9, he9⟩ := XW_head hXW
            refine lw_callVi (wr := [(h_a1, .inl (k_cI G, 21, .inl w_a1)), (h_a2, .inl (k_cI G, 4, .inl w_a2))]) (rest := []) C0 (lx_grow hXW et34 H.size) (cwV 2 hts gL_act_X11_grow rfl rfl rfl e_X11_grow ⟨Nat.le_of_ble_eq_true rfl, Nat.le_of_ble_eq_true rfl⟩) hP hD hS rfl rfl he9 rfl hl.1 rfl (Nat.le_of_ble_eq_true rfl) dL_act_193 ⟨Nat.le_of_ble_eq_true rfl, Nat.le_of_ble_eq_true rfl⟩ (fun w36 H locs hXW hP hD hS => ?_)
            replace hXW : XW G h_o σ35 w36 := by rw [eσ35]; exact hXW
            clear et34 eσ35 he9
            refine lv_iconst (v := -1) hx hb dL_act_196 (by decide) ?_
            refine lv_icmp_ne (tgt := 208) hx hb dL_act_197 (by decide) (fun q37 => ?_) (fun q37 => ?_)
            · replace hrun := if_f q37 hrun
              refine lv_iconst (v := -1) hx hb dL_act_208 (by decide) ?_
              refine lv_goto (tgt := 213) hx hb dL_act_209 (by decide) ?_
              obtain rfl := Option.some.inj hrun
              exact kd_reti C0 hP hD hS ⟨w36, rfl, hXW⟩ rfl dL_act_213
            · replace hrun := if_t q37 hrun
              refine lv_aload_n hx hb dL_act_200 rfl (lv_at hl 3 rfl) ?_
              obtain ⟨t38, et38, hrun⟩ := bd_inv hrun
              obtain ⟨σ39, eσ39, hrun⟩ := lt_inv hrun
              obtain ⟨fs9, he9⟩ := XW_head hXW
              refine lw_callVi (wr := [(h_a1, .inl (k_cI G, 21, .inl w_a1)), (h_a2, .inl (k_cI G, 4, .inl w_a2))]) (rest := []) C0 (lx_trouble hXW et38 H.size) (cwV 0 hts gL_act_X11_trouble rfl rfl rfl e_X11_trouble ⟨Nat.le_of_ble_eq_true rfl, Nat.le_of_ble_eq_true rfl⟩) hP hD hS rfl rfl he9 rfl hl.1 rfl (Nat.le_of_ble_eq_true rfl) dL_act_201 ⟨Nat.le_of_ble_eq_true rfl, Nat.le_of_ble_eq_true rfl⟩ (fun w40 H locs hXW hP hD hS => ?_)
              replace hXW : XW G h_o σ39 w40 := by rw [eσ39]; exact hXW
              clear et38 eσ39 he9
              refine lv_iconst (v := 3) hx hb dL_act_204 (by decide) ?_
              refine lv_icmp_eq (tgt := 212) hx hb dL_act_205 (by decide) (fun q41 => ?_) (fun q41 => ?_)
              · replace hrun := if_t q41 hrun
                refine lv_iconst (v := 0) hx hb dL_act_212 (by decide) ?_
                obtain rfl := Option.some.inj hrun
                exact kd_reti C0 hP hD hS ⟨w40, rfl, hXW⟩ rfl dL_act_213
              · replace hrun := if_f q41 hrun
                refine lv_iconst (v := -1) hx hb dL_act_208 (by decide) ?_
                refine lv_goto (tgt := 213) hx hb dL_act_209 (by decide) ?_
                obtain rfl := Option.some.inj hrun
                exact kd_reti C0 hP hD hS ⟨w40, rfl, hXW⟩ rfl dL_act_213
      · replace hrun := if_t q9 hrun
        refine lv_aload_n hx hb dL_act_135 rfl (lv_at hl 5 rfl) ?_
        refine lv_iconst (v := 2) hx hb dL_act_136 (by decide) ?_
        refine lv_iload hx hb dL_act_137 (lv_at hl 2 rfl) ?_
        refine lv_iadd hx hb dL_act_139 ?_
        refine lv_iload hx hb dL_act_140 (lv_at hl 1 rfl) ?_
        refine lv_aload_n hx hb dL_act_142 rfl (lv_at hl 5 rfl) ?_
        refine lv_iconst (v := 2) hx hb dL_act_143 (by decide) ?_
        refine lv_iload hx hb dL_act_144 (lv_at hl 2 rfl) ?_
        refine lv_iadd hx hb dL_act_146 ?_
        obtain ⟨gz42, hrun⟩ := gd_inv hrun
        refine va_iald hx hb hK hP 1 1 rfl rfl gz42 dL_act_147 ?_
        refine lv_iconst (v := 0) hx hb dL_act_148 (by decide) ?_
        refine lv_iconst (v := 1) hx hb dL_act_149 (by decide) ?_
        refine lv_iconst (v := 0) hx hb dL_act_150 (by decide) ?_
        obtain ⟨t43, et43, hrun⟩ := bd_inv hrun
        refine k_calli0 C0 (k_runS (rest := [.int ((2 : Int32) + n3), .ref h_a2]) C0 (c_L_look et43) (va_cwS 5 hts gL_act_L_look rfl rfl rfl e_L_look.2 ⟨Nat.le_of_ble_eq_true rfl, Nat.le_of_ble_eq_true rfl⟩) hP hD hS [] rfl (by decide) rfl hl.1 rfl (Nat.le_of_ble_eq_true rfl) dL_act_151 ⟨Nat.le_of_ble_eq_true rfl, Nat.le_of_ble_eq_true rfl⟩) hP hS (fun H locs hP hS => ?_)
        obtain ⟨gz44, hrun⟩ := gd_inv hrun
        obtain ⟨w45, ew, hrun⟩ := lt_inv hrun
        refine va_iast hx hb hK hP hD hS 1 1 rfl rfl gz44 dL_act_154 (fun H locs hP hD hS => ?_)
        have hP : va_P G.1 vwCl ([(h_a1, .inl (k_cI G, 21, .inl w_a1)), (h_a2, .inl (k_cI G, 4, .inl w45))] ++ w) H := by rw [ew]; exact hP
        have hD : va_D A ([(h_a1, .inl (k_cI G, 21, .inl w_a1)), (h_a2, .inl (k_cI G, 4, .inl w45))] ++ w) := by rw [ew]; exact hD
        clear ew
        refine lv_aload_n hx hb dL_act_155 rfl (lv_at hl 3 rfl) ?_
        refine lv_iload hx hb dL_act_156 (lv_at hl 2 rfl) ?_
        obtain ⟨t46, et46, hrun⟩ := bd_inv hrun
        obtain ⟨σ47, eσ47, hrun⟩ := lt_inv hrun
        obtain ⟨fs9, he9⟩ := XW_head hXW
        refine lw_callVi (wr := [(h_a1, .inl (k_cI G, 21, .inl w_a1)), (h_a2, .inl (k_cI G, 4, .inl w45))]) (rest := []) C0 (lx_twin hXW et46 H.size) (cwV 1 hts gL_act_X11_twin rfl rfl rfl e_X11_twin ⟨Nat.le_of_ble_eq_true rfl, Nat.le_of_ble_eq_true rfl⟩) hP hD hS rfl rfl he9 rfl hl.1 rfl (Nat.le_of_ble_eq_true rfl) dL_act_158 ⟨Nat.le_of_ble_eq_true rfl, Nat.le_of_ble_eq_true rfl⟩ (fun w48 H locs hXW hP hD hS => ?_)
        replace hXW : XW G h_o σ47 w48 := by rw [eσ47]; exact hXW
        clear et46 eσ47 he9
        refine lv_aload_n hx hb dL_act_161 rfl (lv_at hl 5 rfl) ?_
        refine lv_iconst (v := 2) hx hb dL_act_162 (by decide) ?_
        refine lv_iload hx hb dL_act_163 (lv_at hl 2 rfl) ?_
        refine lv_iadd hx hb dL_act_165 ?_
        obtain ⟨gz49, hrun⟩ := gd_inv hrun
        refine va_iald hx hb hK hP 1 1 rfl rfl gz49 dL_act_166 ?_
        refine lv_icmp_ne (tgt := 174) hx hb dL_act_167 (by decide) (fun q50 => ?_) (fun q50 => ?_)
        · replace hrun := if_f q50 hrun
          refine lv_iconst (v := -1) hx hb dL_act_174 (by decide) ?_
          obtain rfl := Option.some.inj hrun
          exact kd_reti C0 hP hD hS ⟨w48, rfl, hXW⟩ rfl dL_act_175
        · replace hrun := if_t q50 hrun
          refine lv_iconst (v := 1) hx hb dL_act_170 (by decide) ?_
          refine lv_goto (tgt := 175) hx hb dL_act_171 (by decide) ?_
          obtain rfl := Option.some.inj hrun
          exact kd_reti C0 hP hD hS ⟨w48, rfl, hXW⟩ rfl dL_act_175
    · replace hrun := if_t q8 hrun
      refine lv_aload_n hx hb dL_act_88 rfl (lv_at hl 5 rfl) ?_
      refine lv_iconst (v := 2) hx hb dL_act_89 (by decide) ?_
      refine lv_iload hx hb dL_act_90 (lv_at hl 2 rfl) ?_
      refine lv_iadd hx hb dL_act_92 ?_
      refine lv_iload hx hb dL_act_93 (lv_at hl 1 rfl) ?_
      refine lv_aload_n hx hb dL_act_95 rfl (lv_at hl 5 rfl) ?_
      refine lv_iconst (v := 2) hx hb dL_act_96 (by decide) ?_
      refine lv_iload hx hb dL_act_97 (lv_at hl 2 rfl) ?_
      refine lv_iadd hx hb dL_act_99 ?_
      obtain ⟨gz51, hrun⟩ := gd_inv hrun
      refine va_iald hx hb hK hP 1 1 rfl rfl gz51 dL_act_100 ?_
      refine lv_iconst (v := 1) hx hb dL_act_101 (by decide) ?_
      refine lv_iconst (v := 0) hx hb dL_act_102 (by decide) ?_
      refine lv_iconst (v := 0) hx hb dL_act_103 (by decide) ?_
      obtain ⟨t52, et52, hrun⟩ := bd_inv hrun
      refine k_calli0 C0 (k_runS (rest := [.int ((2 : Int32) + n3), .ref h_a2]) C0 (c_L_look et52) (va_cwS 5 hts gL_act_L_look rfl rfl rfl e_L_look.2 ⟨Nat.le_of_ble_eq_true rfl, Nat.le_of_ble_eq_true rfl⟩) hP hD hS [] rfl (by decide) rfl hl.1 rfl (Nat.le_of_ble_eq_true rfl) dL_act_104 ⟨Nat.le_of_ble_eq_true rfl, Nat.le_of_ble_eq_true rfl⟩) hP hS (fun H locs hP hS => ?_)
      obtain ⟨gz53, hrun⟩ := gd_inv hrun
      obtain ⟨w54, ew, hrun⟩ := lt_inv hrun
      refine va_iast hx hb hK hP hD hS 1 1 rfl rfl gz53 dL_act_107 (fun H locs hP hD hS => ?_)
      have hP : va_P G.1 vwCl ([(h_a1, .inl (k_cI G, 21, .inl w_a1)), (h_a2, .inl (k_cI G, 4, .inl w54))] ++ w) H := by rw [ew]; exact hP
      have hD : va_D A ([(h_a1, .inl (k_cI G, 21, .inl w_a1)), (h_a2, .inl (k_cI G, 4, .inl w54))] ++ w) := by rw [ew]; exact hD
      clear ew
      refine lv_aload_n hx hb dL_act_108 rfl (lv_at hl 3 rfl) ?_
      refine lv_iload hx hb dL_act_109 (lv_at hl 2 rfl) ?_
      obtain ⟨t55, et55, hrun⟩ := bd_inv hrun
      obtain ⟨σ56, eσ56, hrun⟩ := lt_inv hrun
      obtain ⟨fs9, he9⟩ := XW_head hXW
      refine lw_callVi (wr := [(h_a1, .inl (k_cI G, 21, .inl w_a1)), (h_a2, .inl (k_cI G, 4, .inl w54))]) (rest := []) C0 (lx_turn hXW et55 H.size) (cwV 1 hts gL_act_X11_turn rfl rfl rfl e_X11_turn ⟨Nat.le_of_ble_eq_true rfl, Nat.le_of_ble_eq_true rfl⟩) hP hD hS rfl rfl he9 rfl hl.1 rfl (Nat.le_of_ble_eq_true rfl) dL_act_111 ⟨Nat.le_of_ble_eq_true rfl, Nat.le_of_ble_eq_true rfl⟩ (fun w57 H locs hXW hP hD hS => ?_)
      replace hXW : XW G h_o σ56 w57 := by rw [eσ56]; exact hXW
      clear et55 eσ56 he9
      refine lv_aload_n hx hb dL_act_114 rfl (lv_at hl 5 rfl) ?_
      refine lv_iconst (v := 2) hx hb dL_act_115 (by decide) ?_
      refine lv_iload hx hb dL_act_116 (lv_at hl 2 rfl) ?_
      refine lv_iadd hx hb dL_act_118 ?_
      obtain ⟨gz58, hrun⟩ := gd_inv hrun
      refine va_iald hx hb hK hP 1 1 rfl rfl gz58 dL_act_119 ?_
      refine lv_icmp_ne (tgt := 127) hx hb dL_act_120 (by decide) (fun q59 => ?_) (fun q59 => ?_)
      · replace hrun := if_f q59 hrun
        refine lv_iconst (v := -1) hx hb dL_act_127 (by decide) ?_
        obtain rfl := Option.some.inj hrun
        exact kd_reti C0 hP hD hS ⟨w57, rfl, hXW⟩ rfl dL_act_128
      · replace hrun := if_t q59 hrun
        refine lv_iconst (v := 1) hx hb dL_act_123 (by decide) ?_
        refine lv_goto (tgt := 128) hx hb dL_act_124 (by decide) ?_
        obtain rfl := Option.some.inj hrun
        exact kd_reti C0 hP hD hS ⟨w57, rfl, hXW⟩ rfl dL_act_128
  · replace hrun := if_f q7 hrun
    refine lv_iload_n hx hb dL_act_29 rfl (lv_at hl 6 rfl) ?_
    refine lv_iconst (v := 4) hx hb dL_act_30 (by decide) ?_
    refine lv_ishr hx hb dL_act_31 ?_
    refine lv_bipush (v := 15) hx hb dL_act_32 (by decide) ?_
    refine lv_iand hx hb dL_act_34 ?_
    refine lv_iload hx hb dL_act_35 (lv_at hl 1 rfl) ?_
    obtain ⟨gz60, hrun⟩ := gd_inv hrun
    refine lv_irem hx hb dL_act_37 gz60 ?_
    obtain ⟨n61, en, hrun⟩ := lt_inv hrun
    refine k_nmi en ?_
    clear en
    refine lv_istore (lv' := [(7, .int n61), (6, .int n6), (5, .int n5), (4, .int n3), (0, .ref h_o), (1, .ref h_a1), (2, .ref h_a2), (3, .int p3)]) hx hb dL_act_38 hl (by decide) rfl (fun ls hl => ?_)
    refine lv_aload_n hx hb dL_act_40 rfl (lv_at hl 6 rfl) ?_
    refine lv_iconst (v := 2) hx hb dL_act_41 (by decide) ?_
    refine lv_iload hx hb dL_act_42 (lv_at hl 3 rfl) ?_
    refine lv_iadd hx hb dL_act_44 ?_
    refine lv_iload hx hb dL_act_45 (lv_at hl 2 rfl) ?_
    refine lv_aload_n hx hb dL_act_47 rfl (lv_at hl 6 rfl) ?_
    refine lv_iconst (v := 2) hx hb dL_act_48 (by decide) ?_
    refine lv_iload hx hb dL_act_49 (lv_at hl 3 rfl) ?_
    refine lv_iadd hx hb dL_act_51 ?_
    obtain ⟨gz62, hrun⟩ := gd_inv hrun
    refine va_iald hx hb hK hP 1 1 rfl rfl gz62 dL_act_52 ?_
    refine lv_iload hx hb dL_act_53 (lv_at hl 0 rfl) ?_
    obtain ⟨t63, et63, hrun⟩ := bd_inv hrun
    refine k_calli0 C0 (k_runS (rest := [.int ((2 : Int32) + n3), .ref h_a2]) C0 (c_L_slipped et63) (va_cwS 3 hts gL_act_L_slipped rfl rfl rfl e_L_slipped.2 ⟨Nat.le_of_ble_eq_true rfl, Nat.le_of_ble_eq_true rfl⟩) hP hD hS [] rfl (by decide) rfl hl.1 rfl (Nat.le_of_ble_eq_true rfl) dL_act_55 ⟨Nat.le_of_ble_eq_true rfl, Nat.le_of_ble_eq_true rfl⟩) hP hS (fun H locs hP hS => ?_)
    obtain ⟨gz64, hrun⟩ := gd_inv hrun
    obtain ⟨w65, ew, hrun⟩ := lt_inv hrun
    refine va_iast hx hb hK hP hD hS 1 1 rfl rfl gz64 dL_act_58 (fun H locs hP hD hS => ?_)
    have hP : va_P G.1 vwCl ([(h_a1, .inl (k_cI G, 21, .inl w_a1)), (h_a2, .inl (k_cI G, 4, .inl w65))] ++ w) H := by rw [ew]; exact hP
    have hD : va_D A ([(h_a1, .inl (k_cI G, 21, .inl w_a1)), (h_a2, .inl (k_cI G, 4, .inl w65))] ++ w) := by rw [ew]; exact hD
    clear ew
    refine lv_aload_n hx hb dL_act_59 rfl (lv_at hl 4 rfl) ?_
    refine lv_iload hx hb dL_act_60 (lv_at hl 3 rfl) ?_
    refine lv_iload hx hb dL_act_62 (lv_at hl 0 rfl) ?_
    obtain ⟨t66, et66, hrun⟩ := bd_inv hrun
    obtain ⟨σ67, eσ67, hrun⟩ := lt_inv hrun
    obtain ⟨fs9, he9⟩ := XW_head hXW
    refine lw_callVi (wr := [(h_a1, .inl (k_cI G, 21, .inl w_a1)), (h_a2, .inl (k_cI G, 4, .inl w65))]) (rest := []) C0 (lx_slip hXW et66 H.size) (cwV 2 hts gL_act_X11_slip rfl rfl rfl e_X11_slip ⟨Nat.le_of_ble_eq_true rfl, Nat.le_of_ble_eq_true rfl⟩) hP hD hS rfl rfl he9 rfl hl.1 rfl (Nat.le_of_ble_eq_true rfl) dL_act_64 ⟨Nat.le_of_ble_eq_true rfl, Nat.le_of_ble_eq_true rfl⟩ (fun w68 H locs hXW hP hD hS => ?_)
    replace hXW : XW G h_o σ67 w68 := by rw [eσ67]; exact hXW
    clear et66 eσ67 he9
    refine lv_aload_n hx hb dL_act_67 rfl (lv_at hl 6 rfl) ?_
    refine lv_iconst (v := 2) hx hb dL_act_68 (by decide) ?_
    refine lv_iload hx hb dL_act_69 (lv_at hl 3 rfl) ?_
    refine lv_iadd hx hb dL_act_71 ?_
    obtain ⟨gz69, hrun⟩ := gd_inv hrun
    refine va_iald hx hb hK hP 1 1 rfl rfl gz69 dL_act_72 ?_
    refine lv_icmp_ne (tgt := 80) hx hb dL_act_73 (by decide) (fun q70 => ?_) (fun q70 => ?_)
    · replace hrun := if_f q70 hrun
      refine lv_iconst (v := -1) hx hb dL_act_80 (by decide) ?_
      obtain rfl := Option.some.inj hrun
      exact kd_reti C0 hP hD hS ⟨w68, rfl, hXW⟩ rfl dL_act_81
    · replace hrun := if_t q70 hrun
      refine lv_iconst (v := 1) hx hb dL_act_76 (by decide) ?_
      refine lv_goto (tgt := 81) hx hb dL_act_77 (by decide) ?_
      obtain rfl := Option.some.inj hrun
      exact kd_reti C0 hP hD hS ⟨w68, rfl, hXW⟩ rfl dL_act_81
