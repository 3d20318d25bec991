/-! THE LAW: the cases of lab and led -/
section LW
variable {p : Program} {l : Launch} {e : Env} {s : State} {m : MethodId} {below : List Frame} {meth : Method} {c : Code} {H : Heap} {locs : List Loc} {cells slots : Nat} {Q : State → Prop} {G : k_G} {b L : Nat} {xs : Nat → Int32} {hX hM q3 : Nat} {x4 : Int32} {ls : Array Slot} {wX wM : va_W} {f : Nat → Int64}
set_option maxHeartbeats 4000000 in
set_option maxRecDepth 100000 in
theorem L_led (hst : l.stackTraces = false) (C0 : lw_K G p s m b meth c) (hXs : va_X b L xs s s.heap) (hbl : b < s.heap.size) (hin : ∀ k : Nat, k < 6 → vp_in (x4 + nI k) L) (hl : lv_has ls 7 (lw_l b hX hM q3 x4)) (hI : lw_Inv G hX hM wX wM) (hP : va_P G.1 vwCl ((lw_O G q3 f ++ wM) ++ wX) H) (hD : va_D (fun q : Nat => s.heap.size ≤ q) ((lw_O G q3 f ++ wM) ++ wX)) (hS : va_S (fun q : Nat => s.heap.size ≤ q) s.heap H locs) (hc9 : cells + 10 ≤ 601024) (hs9 : slots + 64 ≤ 7293034)
    (kk : ∀ (u v : va_W) (f1 : Nat → Int64) (ls1 : Array Slot) (H1 : Heap) (locs1 : List Loc), lw_Inv G hX hM u v → va_P G.1 vwCl ((lw_O G q3 f1 ++ v) ++ u) H1 → va_D (fun q : Nat => s.heap.size ≤ q) ((lw_O G q3 f1 ++ v) ++ u) → va_S (fun q : Nat => s.heap.size ≤ q) s.heap H1 locs1 → lv_has ls1 7 (lw_l b hX hM q3 x4) → W p l e room_1 s m #[Value.ref b] below meth c H1 locs1 (cells + 10) (slots + 64) Q (F0 m 2097 ls1 [])) : W p l e room_1 s m #[Value.ref b] below meth c H locs cells slots Q (F0 m 2003 ls []) := by
  obtain ⟨fm, em⟩ := lw_im hI
  obtain ⟨σ, o, r, t, PM, rm, hw, hrun, MM, ⟨r1, r2, r3, r4⟩, hT, hcase⟩ := I_led (l := l) hI (xs (x4 + nI 1).toNatClampNeg)
  have hx := C0.1
  have hb := C0.2.1
  have hts := C0.2.2.2.1
  have hK := C0.2.2.2.2.2.2.2.2.1.1
  refine lv_aload_n hx hb dL_law_2003 rfl (lv_at hl 1 rfl) ?_
  refine lw_arg (k := nI 1) C0 hXs hbl hS hl dL_law_2004 dL_law_2005 dL_law_2007 (by decide) dL_law_2008 dL_law_2009 (hin 1 (by decide)) ?_
  refine lv_aload_n hx hb dL_law_2010 rfl (lv_at hl 3 rfl) ?_
  have hP := k_swP (k_rotP hP)
  have hD := k_swD (k_rotD hD)
  refine lw_callSw (wr := wM) (rest := []) (hh := [(0, 9, 12, 13)]) C0 (c_L_led hw hst hrun H.size) (vx_cwSW 3 hts gL_law_L_led rfl rfl rfl e_L_led ⟨Nat.le_of_ble_eq_true rfl, Nat.le_of_ble_eq_true rfl⟩) hP hD hS rfl hl.1 rfl (Nat.le_of_ble_eq_true rfl) dL_law_2011 ⟨(by show cells + 1 ≤ 601024; omega), (by show slots + 6 ≤ 7293034; omega)⟩ (fun u0 H1 locs1 hu0 hP hD hS => ?_)
  obtain ⟨f1, u, rfl, hu, hf1⟩ := hu0
  refine lv_istore (lv' := [(5, .int (lw_k o)), (0, .ref b), (1, .ref hX), (2, .ref hM), (3, .ref q3), (4, .int x4)]) hx hb dL_law_2014 hl (by decide) rfl (fun ls hl => ?_)
  have hl0 : lv_has ls 7 (lw_l b hX hM q3 x4) := lv_sub hl [1, 2, 3, 4, 5] rfl
  have hP := k_swP hP
  have hD := k_swD hD
  refine lv_aload_n hx hb dL_law_2016 rfl (lv_at hl0 2 rfl) ?_
  refine lw_arg (k := nI 1) C0 hXs hbl hS hl0 dL_law_2017 dL_law_2018 dL_law_2020 (by decide) dL_law_2021 dL_law_2022 (hin 1 (by decide)) ?_
  refine lw_callVi (wr := lw_O G q3 f1 ++ u) (ci := 10) (qc := (RX13, TX13, 38)) (rest := []) C0 (MM H1.size) (cwV 1 hts gL_law_X13_led rfl r1 r2 e_X13_led ⟨(by show rm.frames + 1 ≤ 15; omega), (by show 8 + (_ + 11) + rm.locals ≤ 568; omega)⟩) hP hD hS rfl rfl em rfl hl.1 rfl (Nat.le_of_ble_eq_true rfl) dL_law_2023 ⟨(by show cells + 1 + 0 ≤ 601024; omega), (by show slots + 6 + 0 ≤ 7293034; omega)⟩ (fun v H2 locs2 hv hP hD hS => ?_)
  refine lv_istore (lv' := [(6, .int r), (5, .int (lw_k o)), (0, .ref b), (1, .ref hX), (2, .ref hM), (3, .ref q3), (4, .int x4)]) hx hb dL_law_2026 hl (by decide) rfl (fun ls hl => ?_)
  have hl0 : lv_has ls 7 (lw_l b hX hM q3 x4) := lv_sub hl [2, 3, 4, 5, 6] rfl
  refine lv_aload_n hx hb dL_law_2028 rfl (lv_at hl0 2 rfl) ?_
  obtain ⟨PT, ⟨fv, ev⟩, MT, hI'⟩ := hT v hv
  refine lw_callVi (wr := lw_O G q3 f1 ++ u) (ci := 10) (qc := (RX13, TX13, 38)) (rest := []) C0 (MT H2.size) (cwV 0 hts gL_law_X13_thrown rfl rfl rfl e_X13_thrown ⟨Nat.le_of_ble_eq_true rfl, Nat.le_of_ble_eq_true rfl⟩) hP hD hS rfl rfl ev rfl hl.1 rfl (Nat.le_of_ble_eq_true rfl) dL_law_2029 ⟨(by show cells + 1 + 0 + 0 ≤ 601024; omega), (by show slots + 6 + 0 + 0 ≤ 7293034; omega)⟩ (fun v1 H3 locs3 hv1 hP hD hS => ?_)
  have K56 : W p l e room_1 s m #[Value.ref b] below meth c H3 locs3 (cells + 1 + 0 + 0) (slots + 6 + 0 + 0) Q (F0 m 2056 ls []) := by
    refine lv_goto (tgt := 2097) hx hb dL_law_2056 (by decide) ?_
    refine W.widen (k := cells + 10) (n := slots + 64) (by omega) (by omega) ?_
    exact kk u v1 f1 ls _ _ (hI' u v1 hu hv1) (k_rotP hP) (k_rotD hD) hS hl0
  refine lv_iload hx hb dL_law_2032 (lv_at hl 1 rfl) ?_
  refine lv_icmp_eq (tgt := 2039) hx hb dL_law_2034 (by decide) (fun _ => ?_) (fun h => absurd ?_ h)
  · refine lv_iload hx hb dL_law_2039 (lv_at hl 1 rfl) ?_
    refine lv_if_ne (tgt := 2056) hx hb dL_law_2041 (by decide) (fun _ => K56) (fun hk0 => ?_)
    obtain ⟨hne, rfl, -⟩ | ⟨h1, -⟩ := hcase
    · refine lv_aload_n hx hb dL_law_2044 rfl (lv_at hl0 3 rfl) ?_
      refine lv_iconst (v := 0) hx hb dL_law_2045 (by decide) ?_
      refine va_lald hx hb hK hP 0 2 (cA := k_cJ G) (n := 1) (f := f1) rfl rfl (i := 0) (show ¬ ((0 : Int32) < 0 ∨ 1 ≤ (0 : Int32).toNatClampNeg) by decide) dL_law_2046 ?_
      refine lv_iload hx hb dL_law_2047 (lv_at hl 0 rfl) ?_
      refine lv_i2l (v := Int32.toInt64 _) hx hb dL_law_2049 rfl ?_
      rw [hf1 hne]
      refine W.lcmp hx hb dL_law_2050 ?_
      exact lv_if_eq (tgt := 2056) hx hb dL_law_2051 (by decide) (fun _ => K56) (fun h => absurd (lw_cmp _) h)
    · rw [lw_k, if_pos h1] at hk0
      exact absurd hk0 (by decide)
  · obtain ⟨hne, -, ht⟩ | ⟨h1, ht⟩ := hcase
    · rw [ht, lw_k, if_neg hne]
    · rw [ht, lw_k, if_pos h1]
set_option maxHeartbeats 4000000 in
set_option maxRecDepth 100000 in
theorem L_lab {wO : va_W} (C0 : lw_K G p s m b meth c) (hXs : va_X b L xs s s.heap) (hbl : b < s.heap.size) (hin : ∀ k : Nat, k < 6 → vp_in (x4 + nI k) L) (hl : lv_has ls 7 (lw_l b hX hM q3 x4)) (hI : lw_Inv G hX hM wX wM) (hP : va_P G.1 vwCl ((wO ++ wM) ++ wX) H) (hD : va_D (fun q : Nat => s.heap.size ≤ q) ((wO ++ wM) ++ wX)) (hS : va_S (fun q : Nat => s.heap.size ≤ q) s.heap H locs) (hc9 : cells + 10 ≤ 601024) (hs9 : slots + 64 ≤ 7293034)
    (kk : ∀ (u v : va_W) (H1 : Heap) (locs1 : List Loc), lw_Inv G hX hM u v → va_P G.1 vwCl ((wO ++ v) ++ u) H1 → va_D (fun q : Nat => s.heap.size ≤ q) ((wO ++ v) ++ u) → va_S (fun q : Nat => s.heap.size ≤ q) s.heap H1 locs1 → W p l e room_1 s m #[Value.ref b] below meth c H1 locs1 (cells + 10) (slots + 64) Q (F0 m 2097 ls [])) : W p l e room_1 s m #[Value.ref b] below meth c H locs cells slots Q (F0 m 361 ls []) := by
  obtain ⟨fx, ex⟩ := lw_ix hI
  obtain ⟨fm, em⟩ := lw_im hI
  obtain ⟨r, PX, PM, MX, MM, hI'⟩ := I_lab (l := l) hI (xs (x4 + nI 1).toNatClampNeg)
  have hx := C0.1
  have hb := C0.2.1
  have hts := C0.2.2.2.1
  refine lv_aload_n hx hb dL_law_361 rfl (lv_at hl 1 rfl) ?_
  refine lw_arg (k := nI 1) C0 hXs hbl hS hl dL_law_362 dL_law_363 dL_law_365 (by decide) dL_law_366 dL_law_367 (hin 1 (by decide)) ?_
  refine lw_callVi (wr := wO ++ wM) (ci := 8) (qc := (RX11, TX11, 12)) (rest := []) C0 (MX H.size) (cwV 1 hts gL_law_X11_lab rfl rfl rfl e_X11_lab ⟨Nat.le_of_ble_eq_true rfl, Nat.le_of_ble_eq_true rfl⟩) hP hD hS rfl rfl ex rfl hl.1 rfl (Nat.le_of_ble_eq_true rfl) dL_law_368 ⟨(by show cells + 0 ≤ 601024; omega), (by show slots + 0 ≤ 7293034; omega)⟩ (fun u H1 locs1 hu hP hD hS => ?_)
  have hP := k_rotP hP
  have hD := k_rotD hD
  refine lv_aload_n hx hb dL_law_371 rfl (lv_at hl 2 rfl) ?_
  refine lw_arg (k := nI 1) C0 hXs hbl hS hl dL_law_372 dL_law_373 dL_law_375 (by decide) dL_law_376 dL_law_377 (hin 1 (by decide)) ?_
  refine lw_callVi (wr := wO ++ u) (ci := 10) (qc := (RX13, TX13, 38)) (rest := [.int r]) C0 (MM H1.size) (cwV 1 hts gL_law_X13_lab rfl rfl rfl e_X13_lab ⟨Nat.le_of_ble_eq_true rfl, Nat.le_of_ble_eq_true rfl⟩) hP hD hS rfl rfl em rfl hl.1 rfl (Nat.le_of_ble_eq_true rfl) dL_law_378 ⟨(by show cells + 0 + 9 ≤ 601024; omega), (by show slots + 0 + 57 ≤ 7293034; omega)⟩ (fun v H2 locs2 hv hP hD hS => ?_)
  refine lv_icmp_eq (tgt := 2097) hx hb dL_law_381 (by decide) (fun _ => ?_) (fun h => absurd rfl h)
  refine W.widen (k := cells + 10) (n := slots + 64) (by omega) (by omega) ?_
  exact kk u v _ _ (hI' u v hu hv) (k_rotP hP) (k_rotD hD) hS
end LW
