def f_L_cell (cL : Nat) (cX : Nat → Int32) (p1 : Int32) : Option (Int32) :=
  if Int32.ofNat cL ≤ p1 then some (0 : Int32) else gd (inR p1 cL) <| some (cX p1.toNatClampNeg)
theorem e_L_cell : yL_cell.cls = RL ∧ yL_cell.cls ≠ "java/lang/invoke/MethodHandle" ∧ yL_cell.cls ≠ "java/lang/invoke/VarHandle" ∧ (parseMethodDescriptor yL_cell.desc).map (fun d => d.parameters.length) = some 2 := by decide +kernel
abbrev rm_L_cell : Room := { frames := 0, cells := 0, slots := 0, locals := 0 }
set_option maxHeartbeats 4000000 in
theorem c_L_cell {l : Launch} {G : k_G} {sz : Nat} {p1 : Int32} {out : Int32} (hrun : f_L_cell (k_xL G) (k_xs G) p1 = some out) : k_Ci l G yL_cell wsL_cell rm_L_cell [.ref (k_xB G), .int p1] [] sz out (fun (_ : Unit) => []) 0 0 := by
  refine k_of (cc := cL_cell) (nL := 2) (ret := some .int) (own := RL) (nm := "cell") (by decide) rfl rfl rfl rfl ?_
  intro p e s m args below meth c ls hsz C0 hP hD hS hl
  have hl : lv_has ls 2 [(0, .ref (k_xB G)), (1, .int p1)] := hl
  generalize hH : s.heap = H at hP
  have hS : va_S (va_A [] sz) s.heap H [] := by rw [← hH]; exact hS
  clear hH
  generalize va_A [] sz = A at C0 hD hS ⊢
  have hx := C0.1
  have hb := C0.2.1
  have hSF := C0.2.2.2.2.2.2.2.2.1.2.2
  rw [f_L_cell] at hrun
  refine lv_iload_n hx hb dL_cell_0 rfl (lv_at hl 1 rfl) ?_
  refine lv_aload_n hx hb dL_cell_1 rfl (lv_at hl 0 rfl) ?_
  refine va_tlen (v := Int32.ofNat (k_xL G)) hx hb hSF.2.2.2.2.2.2 hS rfl dL_cell_2 ?_
  refine lv_icmp_ge (tgt := 12) hx hb dL_cell_3 (by decide) (fun q1 => ?_) (fun q1 => ?_)
  · replace hrun := if_t q1 hrun
    refine lv_iconst (v := 0) hx hb dL_cell_12 (by decide) ?_
    obtain rfl := Option.some.inj hrun
    exact k_reti C0 hP hD hS () rfl rfl dL_cell_13
  · replace hrun := if_f q1 hrun
    obtain ⟨gz1, hrun⟩ := gd_inv hrun
    refine lv_aload_n hx hb dL_cell_6 rfl (lv_at hl 0 rfl) ?_
    refine lv_iload_n hx hb dL_cell_7 rfl (lv_at hl 1 rfl) ?_
    refine va_ti (v := .int (k_xs G p1.toNatClampNeg)) hx hb hSF.2.2.2.2.2.2 hS gz1 rfl dL_cell_8 ?_
    refine lv_goto (tgt := 13) hx hb dL_cell_9 (by decide) ?_
    obtain rfl := Option.some.inj hrun
    exact k_reti C0 hP hD hS () rfl rfl dL_cell_13
