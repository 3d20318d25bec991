/-! THE LAW: case by case -/
section LW
variable {p : Program} {l : Launch} {e : Env} {s : State} {m : MethodId} {below : List Frame} {meth : Method} {c : Code} {H : Heap} {locs : List Loc} {cells slots : Nat} {Q : State → Prop} {G : k_G} {b L : Nat} {xs : Nat → Int32} {hX hM q3 : Nat} {x4 : Int32} {ls : Array Slot} {wX wM wO : va_W}
set_option maxHeartbeats 4000000 in
set_option maxRecDepth 100000 in
theorem L_feed (C0 : lw_K G p s m b meth c) (hXs : va_X b L xs s s.heap) (hbl : b < s.heap.size) (hin : ∀ k : Nat, k < 6 → vp_in (x4 + nI k) L) (hl : lv_has ls 7 (lw_l b hX hM q3 x4)) (hI : lw_Inv G hX hM wX wM) (hP : va_P G.1 vwCl ((wO ++ wM) ++ wX) H) (hD : va_D (fun q : Nat => s.heap.size ≤ q) ((wO ++ wM) ++ wX)) (hS : va_S (fun q : Nat => s.heap.size ≤ q) s.heap H locs) (hc9 : cells + 10 ≤ 601024) (hs9 : slots + 64 ≤ 7293034)
    (kk : ∀ (u v : va_W) (H1 : Heap) (locs1 : List Loc), lw_Inv G hX hM u v → va_P G.1 vwCl ((wO ++ v) ++ u) H1 → va_D (fun q : Nat => s.heap.size ≤ q) ((wO ++ v) ++ u) → va_S (fun q : Nat => s.heap.size ≤ q) s.heap H1 locs1 → W p l e room_1 s m #[Value.ref b] below meth c H1 locs1 (cells + 10) (slots + 64) Q (F0 m 2097 ls [])) : W p l e room_1 s m #[Value.ref b] below meth c H locs cells slots Q (F0 m 288 ls []) := by
  obtain ⟨fx, ex⟩ := lw_ix hI
  obtain ⟨fm, em⟩ := lw_im hI
  obtain ⟨r, PX, PM, rm, MX, MM, ⟨r1, r2, r3, r4⟩, hI'⟩ := I_feed (l := l) hI (xs (x4 + nI 1).toNatClampNeg) (xs (x4 + nI 2).toNatClampNeg) (xs (x4 + nI 3).toNatClampNeg) (xs (x4 + nI 4).toNatClampNeg) (xs (x4 + nI 5).toNatClampNeg)
  have hx := C0.1
  have hb := C0.2.1
  have hts := C0.2.2.2.1
  refine lv_aload_n hx hb dL_law_288 rfl (lv_at hl 1 rfl) ?_
  refine lw_arg (k := nI 1) C0 hXs hbl hS hl dL_law_289 dL_law_290 dL_law_292 (by decide) dL_law_293 dL_law_294 (hin 1 (by decide)) ?_
  refine lw_arg (k := nI 2) C0 hXs hbl hS hl dL_law_295 dL_law_296 dL_law_298 (by decide) dL_law_299 dL_law_300 (hin 2 (by decide)) ?_
  refine lw_arg (k := nI 3) C0 hXs hbl hS hl dL_law_301 dL_law_302 dL_law_304 (by decide) dL_law_305 dL_law_306 (hin 3 (by decide)) ?_
  refine lw_arg (k := nI 4) C0 hXs hbl hS hl dL_law_307 dL_law_308 dL_law_310 (by decide) dL_law_311 dL_law_312 (hin 4 (by decide)) ?_
  refine lw_arg (k := nI 5) C0 hXs hbl hS hl dL_law_313 dL_law_314 dL_law_316 (by decide) dL_law_317 dL_law_318 (hin 5 (by decide)) ?_
  refine lw_callVi (wr := wO ++ wM) (ci := 8) (qc := (RX11, TX11, 12)) (rest := []) C0 (MX H.size) (cwV 5 hts gL_law_X11_feed rfl rfl rfl e_X11_feed ⟨Nat.le_of_ble_eq_true rfl, Nat.le_of_ble_eq_true rfl⟩) hP hD hS rfl rfl ex rfl hl.1 rfl (Nat.le_of_ble_eq_true rfl) dL_law_319 ⟨(by show cells + 0 ≤ 601024; omega), (by show slots + 0 ≤ 7293034; omega)⟩ (fun u H1 locs1 hu hP hD hS => ?_)
  have hP := k_rotP hP
  have hD := k_rotD hD
  refine lv_aload_n hx hb dL_law_322 rfl (lv_at hl 2 rfl) ?_
  refine lw_arg (k := nI 1) C0 hXs hbl hS hl dL_law_323 dL_law_324 dL_law_326 (by decide) dL_law_327 dL_law_328 (hin 1 (by decide)) ?_
  refine lw_arg (k := nI 2) C0 hXs hbl hS hl dL_law_329 dL_law_330 dL_law_332 (by decide) dL_law_333 dL_law_334 (hin 2 (by decide)) ?_
  refine lw_arg (k := nI 3) C0 hXs hbl hS hl dL_law_335 dL_law_336 dL_law_338 (by decide) dL_law_339 dL_law_340 (hin 3 (by decide)) ?_
  refine lw_arg (k := nI 4) C0 hXs hbl hS hl dL_law_341 dL_law_342 dL_law_344 (by decide) dL_law_345 dL_law_346 (hin 4 (by decide)) ?_
  refine lw_arg (k := nI 5) C0 hXs hbl hS hl dL_law_347 dL_law_348 dL_law_350 (by decide) dL_law_351 dL_law_352 (hin 5 (by decide)) ?_
  refine lw_callVi (wr := wO ++ u) (ci := 10) (qc := (RX13, TX13, 38)) (rest := [.int r]) C0 (MM H1.size) (cwV 5 hts gL_law_X13_feed rfl r1 r2 e_X13_feed ⟨(by show rm.frames + 1 ≤ 15; omega), (by show 8 + (_ + 11) + rm.locals ≤ 568; omega)⟩) hP hD hS rfl rfl em rfl hl.1 rfl (Nat.le_of_ble_eq_true rfl) dL_law_353 ⟨(by show cells + 0 + 0 ≤ 601024; omega), (by show slots + 0 + 0 ≤ 7293034; omega)⟩ (fun v H2 locs2 hv hP hD hS => ?_)
  refine lv_icmp_eq (tgt := 2097) hx hb dL_law_356 (by decide) (fun _ => ?_) (fun h => absurd rfl h)
  refine W.widen (k := cells + 10) (n := slots + 64) (by omega) (by omega) ?_
  exact kk u v _ _ (hI' u v hu hv) (k_rotP hP) (k_rotD hD) hS
set_option maxHeartbeats 4000000 in
set_option maxRecDepth 100000 in
theorem L_fault (C0 : lw_K G p s m b meth c) (hXs : va_X b L xs s s.heap) (hbl : b < s.heap.size) (hin : ∀ k : Nat, k < 6 → vp_in (x4 + nI k) L) (hl : lv_has ls 7 (lw_l b hX hM q3 x4)) (hI : lw_Inv G hX hM wX wM) (hP : va_P G.1 vwCl ((wO ++ wM) ++ wX) H) (hD : va_D (fun q : Nat => s.heap.size ≤ q) ((wO ++ wM) ++ wX)) (hS : va_S (fun q : Nat => s.heap.size ≤ q) s.heap H locs) (hc9 : cells + 10 ≤ 601024) (hs9 : slots + 64 ≤ 7293034)
    (kk : ∀ (u v : va_W) (H1 : Heap) (locs1 : List Loc), lw_Inv G hX hM u v → va_P G.1 vwCl ((wO ++ v) ++ u) H1 → va_D (fun q : Nat => s.heap.size ≤ q) ((wO ++ v) ++ u) → va_S (fun q : Nat => s.heap.size ≤ q) s.heap H1 locs1 → W p l e room_1 s m #[Value.ref b] below meth c H1 locs1 (cells + 10) (slots + 64) Q (F0 m 2097 ls [])) : W p l e room_1 s m #[Value.ref b] below meth c H locs cells slots Q (F0 m 386 ls []) := by
  obtain ⟨fx, ex⟩ := lw_ix hI
  obtain ⟨fm, em⟩ := lw_im hI
  obtain ⟨r, PX, PM, rm, MX, MM, ⟨r1, r2, r3, r4⟩, hI'⟩ := I_fault (l := l) hI 
  have hx := C0.1
  have hb := C0.2.1
  have hts := C0.2.2.2.1
  refine lv_aload_n hx hb dL_law_386 rfl (lv_at hl 1 rfl) ?_
  refine lw_callVi (wr := wO ++ wM) (ci := 8) (qc := (RX11, TX11, 12)) (rest := []) C0 (MX H.size) (cwV 0 hts gL_law_X11_fault rfl rfl rfl e_X11_fault ⟨Nat.le_of_ble_eq_true rfl, Nat.le_of_ble_eq_true rfl⟩) hP hD hS rfl rfl ex rfl hl.1 rfl (Nat.le_of_ble_eq_true rfl) dL_law_387 ⟨(by show cells + 0 ≤ 601024; omega), (by show slots + 0 ≤ 7293034; omega)⟩ (fun u H1 locs1 hu hP hD hS => ?_)
  have hP := k_rotP hP
  have hD := k_rotD hD
  refine lv_aload_n hx hb dL_law_390 rfl (lv_at hl 2 rfl) ?_
  refine lw_callVi (wr := wO ++ u) (ci := 10) (qc := (RX13, TX13, 38)) (rest := [.int r]) C0 (MM H1.size) (cwV 0 hts gL_law_X13_fault rfl r1 r2 e_X13_fault ⟨(by show rm.frames + 1 ≤ 15; omega), (by show 8 + (_ + 11) + rm.locals ≤ 568; omega)⟩) hP hD hS rfl rfl em rfl hl.1 rfl (Nat.le_of_ble_eq_true rfl) dL_law_391 ⟨(by show cells + 0 + 0 ≤ 601024; omega), (by show slots + 0 + 0 ≤ 7293034; omega)⟩ (fun v H2 locs2 hv hP hD hS => ?_)
  refine lv_icmp_eq (tgt := 2097) hx hb dL_law_394 (by decide) (fun _ => ?_) (fun h => absurd rfl h)
  refine W.widen (k := cells + 10) (n := slots + 64) (by omega) (by omega) ?_
  exact kk u v _ _ (hI' u v hu hv) (k_rotP hP) (k_rotD hD) hS
set_option maxHeartbeats 4000000 in
set_option maxRecDepth 100000 in
theorem L_where (C0 : lw_K G p s m b meth c) (hXs : va_X b L xs s s.heap) (hbl : b < s.heap.size) (hin : ∀ k : Nat, k < 6 → vp_in (x4 + nI k) L) (hl : lv_has ls 7 (lw_l b hX hM q3 x4)) (hI : lw_Inv G hX hM wX wM) (hP : va_P G.1 vwCl ((wO ++ wM) ++ wX) H) (hD : va_D (fun q : Nat => s.heap.size ≤ q) ((wO ++ wM) ++ wX)) (hS : va_S (fun q : Nat => s.heap.size ≤ q) s.heap H locs) (hc9 : cells + 10 ≤ 601024) (hs9 : slots + 64 ≤ 7293034)
    (kk : ∀ (u v : va_W) (H1 : Heap) (locs1 : List Loc), lw_Inv G hX hM u v → va_P G.1 vwCl ((wO ++ v) ++ u) H1 → va_D (fun q : Nat => s.heap.size ≤ q) ((wO ++ v) ++ u) → va_S (fun q : Nat => s.heap.size ≤ q) s.heap H1 locs1 → W p l e room_1 s m #[Value.ref b] below meth c H1 locs1 (cells + 10) (slots + 64) Q (F0 m 2097 ls [])) : W p l e room_1 s m #[Value.ref b] below meth c H locs cells slots Q (F0 m 399 ls []) := by
  obtain ⟨fx, ex⟩ := lw_ix hI
  obtain ⟨fm, em⟩ := lw_im hI
  obtain ⟨r, PX, PM, rm, MX, MM, ⟨r1, r2, r3, r4⟩, hI'⟩ := I_where (l := l) hI 
  have hx := C0.1
  have hb := C0.2.1
  have hts := C0.2.2.2.1
  refine lv_aload_n hx hb dL_law_399 rfl (lv_at hl 1 rfl) ?_
  refine lw_callVi (wr := wO ++ wM) (ci := 8) (qc := (RX11, TX11, 12)) (rest := []) C0 (MX H.size) (cwV 0 hts gL_law_X11_where rfl rfl rfl e_X11_where ⟨Nat.le_of_ble_eq_true rfl, Nat.le_of_ble_eq_true rfl⟩) hP hD hS rfl rfl ex rfl hl.1 rfl (Nat.le_of_ble_eq_true rfl) dL_law_400 ⟨(by show cells + 0 ≤ 601024; omega), (by show slots + 0 ≤ 7293034; omega)⟩ (fun u H1 locs1 hu hP hD hS => ?_)
  have hP := k_rotP hP
  have hD := k_rotD hD
  refine lv_aload_n hx hb dL_law_403 rfl (lv_at hl 2 rfl) ?_
  refine lw_callVi (wr := wO ++ u) (ci := 10) (qc := (RX13, TX13, 38)) (rest := [.int r]) C0 (MM H1.size) (cwV 0 hts gL_law_X13_where rfl r1 r2 e_X13_where ⟨(by show rm.frames + 1 ≤ 15; omega), (by show 8 + (_ + 11) + rm.locals ≤ 568; omega)⟩) hP hD hS rfl rfl em rfl hl.1 rfl (Nat.le_of_ble_eq_true rfl) dL_law_404 ⟨(by show cells + 0 + 0 ≤ 601024; omega), (by show slots + 0 + 0 ≤ 7293034; omega)⟩ (fun v H2 locs2 hv hP hD hS => ?_)
  refine lv_icmp_eq (tgt := 2097) hx hb dL_law_407 (by decide) (fun _ => ?_) (fun h => absurd rfl h)
  refine W.widen (k := cells + 10) (n := slots + 64) (by omega) (by omega) ?_
  exact kk u v _ _ (hI' u v hu hv) (k_rotP hP) (k_rotD hD) hS
set_option maxHeartbeats 4000000 in
set_option maxRecDepth 100000 in
theorem L_stack (C0 : lw_K G p s m b meth c) (hXs : va_X b L xs s s.heap) (hbl : b < s.heap.size) (hin : ∀ k : Nat, k < 6 → vp_in (x4 + nI k) L) (hl : lv_has ls 7 (lw_l b hX hM q3 x4)) (hI : lw_Inv G hX hM wX wM) (hP : va_P G.1 vwCl ((wO ++ wM) ++ wX) H) (hD : va_D (fun q : Nat => s.heap.size ≤ q) ((wO ++ wM) ++ wX)) (hS : va_S (fun q : Nat => s.heap.size ≤ q) s.heap H locs) (hc9 : cells + 10 ≤ 601024) (hs9 : slots + 64 ≤ 7293034)
    (kk : ∀ (u v : va_W) (H1 : Heap) (locs1 : List Loc), lw_Inv G hX hM u v → va_P G.1 vwCl ((wO ++ v) ++ u) H1 → va_D (fun q : Nat => s.heap.size ≤ q) ((wO ++ v) ++ u) → va_S (fun q : Nat => s.heap.size ≤ q) s.heap H1 locs1 → W p l e room_1 s m #[Value.ref b] below meth c H1 locs1 (cells + 10) (slots + 64) Q (F0 m 2097 ls [])) : W p l e room_1 s m #[Value.ref b] below meth c H locs cells slots Q (F0 m 412 ls []) := by
  obtain ⟨fx, ex⟩ := lw_ix hI
  obtain ⟨fm, em⟩ := lw_im hI
  obtain ⟨r, PX, PM, rm, MX, MM, ⟨r1, r2, r3, r4⟩, hI'⟩ := I_stack (l := l) hI (xs (x4 + nI 1).toNatClampNeg) (xs (x4 + nI 2).toNatClampNeg)
  have hx := C0.1
  have hb := C0.2.1
  have hts := C0.2.2.2.1
  refine lv_aload_n hx hb dL_law_412 rfl (lv_at hl 1 rfl) ?_
  refine lw_arg (k := nI 1) C0 hXs hbl hS hl dL_law_413 dL_law_414 dL_law_416 (by decide) dL_law_417 dL_law_418 (hin 1 (by decide)) ?_
  refine lw_arg (k := nI 2) C0 hXs hbl hS hl dL_law_419 dL_law_420 dL_law_422 (by decide) dL_law_423 dL_law_424 (hin 2 (by decide)) ?_
  refine lw_callVi (wr := wO ++ wM) (ci := 8) (qc := (RX11, TX11, 12)) (rest := []) C0 (MX H.size) (cwV 2 hts gL_law_X11_stack rfl rfl rfl e_X11_stack ⟨Nat.le_of_ble_eq_true rfl, Nat.le_of_ble_eq_true rfl⟩) hP hD hS rfl rfl ex rfl hl.1 rfl (Nat.le_of_ble_eq_true rfl) dL_law_425 ⟨(by show cells + 0 ≤ 601024; omega), (by show slots + 0 ≤ 7293034; omega)⟩ (fun u H1 locs1 hu hP hD hS => ?_)
  have hP := k_rotP hP
  have hD := k_rotD hD
  refine lv_aload_n hx hb dL_law_428 rfl (lv_at hl 2 rfl) ?_
  refine lw_arg (k := nI 1) C0 hXs hbl hS hl dL_law_429 dL_law_430 dL_law_432 (by decide) dL_law_433 dL_law_434 (hin 1 (by decide)) ?_
  refine lw_arg (k := nI 2) C0 hXs hbl hS hl dL_law_435 dL_law_436 dL_law_438 (by decide) dL_law_439 dL_law_440 (hin 2 (by decide)) ?_
  refine lw_callVi (wr := wO ++ u) (ci := 10) (qc := (RX13, TX13, 38)) (rest := [.int r]) C0 (MM H1.size) (cwV 2 hts gL_law_X13_stack rfl r1 r2 e_X13_stack ⟨(by show rm.frames + 1 ≤ 15; omega), (by show 8 + (_ + 11) + rm.locals ≤ 568; omega)⟩) hP hD hS rfl rfl em rfl hl.1 rfl (Nat.le_of_ble_eq_true rfl) dL_law_441 ⟨(by show cells + 0 + 0 ≤ 601024; omega), (by show slots + 0 + 0 ≤ 7293034; omega)⟩ (fun v H2 locs2 hv hP hD hS => ?_)
  refine lv_icmp_eq (tgt := 2097) hx hb dL_law_444 (by decide) (fun _ => ?_) (fun h => absurd rfl h)
  refine W.widen (k := cells + 10) (n := slots + 64) (by omega) (by omega) ?_
  exact kk u v _ _ (hI' u v hu hv) (k_rotP hP) (k_rotD hD) hS
set_option maxHeartbeats 4000000 in
set_option maxRecDepth 100000 in
theorem L_sum (C0 : lw_K G p s m b meth c) (hXs : va_X b L xs s s.heap) (hbl : b < s.heap.size) (hin : ∀ k : Nat, k < 6 → vp_in (x4 + nI k) L) (hl : lv_has ls 7 (lw_l b hX hM q3 x4)) (hI : lw_Inv G hX hM wX wM) (hP : va_P G.1 vwCl ((wO ++ wM) ++ wX) H) (hD : va_D (fun q : Nat => s.heap.size ≤ q) ((wO ++ wM) ++ wX)) (hS : va_S (fun q : Nat => s.heap.size ≤ q) s.heap H locs) (hc9 : cells + 10 ≤ 601024) (hs9 : slots + 64 ≤ 7293034)
    (kk : ∀ (u v : va_W) (H1 : Heap) (locs1 : List Loc), lw_Inv G hX hM u v → va_P G.1 vwCl ((wO ++ v) ++ u) H1 → va_D (fun q : Nat => s.heap.size ≤ q) ((wO ++ v) ++ u) → va_S (fun q : Nat => s.heap.size ≤ q) s.heap H1 locs1 → W p l e room_1 s m #[Value.ref b] below meth c H1 locs1 (cells + 10) (slots + 64) Q (F0 m 2097 ls [])) : W p l e room_1 s m #[Value.ref b] below meth c H locs cells slots Q (F0 m 449 ls []) := by
  obtain ⟨fx, ex⟩ := lw_ix hI
  obtain ⟨fm, em⟩ := lw_im hI
  obtain ⟨r, PX, PM, rm, MX, MM, ⟨r1, r2, r3, r4⟩, hI'⟩ := I_sum (l := l) hI (xs (x4 + nI 1).toNatClampNeg)
  have hx := C0.1
  have hb := C0.2.1
  have hts := C0.2.2.2.1
  refine lv_aload_n hx hb dL_law_449 rfl (lv_at hl 1 rfl) ?_
  refine lw_arg (k := nI 1) C0 hXs hbl hS hl dL_law_450 dL_law_451 dL_law_453 (by decide) dL_law_454 dL_law_455 (hin 1 (by decide)) ?_
  refine lw_callVi (wr := wO ++ wM) (ci := 8) (qc := (RX11, TX11, 12)) (rest := []) C0 (MX H.size) (cwV 1 hts gL_law_X11_sum rfl rfl rfl e_X11_sum ⟨Nat.le_of_ble_eq_true rfl, Nat.le_of_ble_eq_true rfl⟩) hP hD hS rfl rfl ex rfl hl.1 rfl (Nat.le_of_ble_eq_true rfl) dL_law_456 ⟨(by show cells + 0 ≤ 601024; omega), (by show slots + 0 ≤ 7293034; omega)⟩ (fun u H1 locs1 hu hP hD hS => ?_)
  have hP := k_rotP hP
  have hD := k_rotD hD
  refine lv_aload_n hx hb dL_law_459 rfl (lv_at hl 2 rfl) ?_
  refine lw_arg (k := nI 1) C0 hXs hbl hS hl dL_law_460 dL_law_461 dL_law_463 (by decide) dL_law_464 dL_law_465 (hin 1 (by decide)) ?_
  refine lw_callVi (wr := wO ++ u) (ci := 10) (qc := (RX13, TX13, 38)) (rest := [.int r]) C0 (MM H1.size) (cwV 1 hts gL_law_X13_sum rfl r1 r2 e_X13_sum ⟨(by show rm.frames + 1 ≤ 15; omega), (by show 8 + (_ + 11) + rm.locals ≤ 568; omega)⟩) hP hD hS rfl rfl em rfl hl.1 rfl (Nat.le_of_ble_eq_true rfl) dL_law_466 ⟨(by show cells + 0 + 0 ≤ 601024; omega), (by show slots + 0 + 0 ≤ 7293034; omega)⟩ (fun v H2 locs2 hv hP hD hS => ?_)
  refine lv_icmp_eq (tgt := 2097) hx hb dL_law_469 (by decide) (fun _ => ?_) (fun h => absurd rfl h)
  refine W.widen (k := cells + 10) (n := slots + 64) (by omega) (by omega) ?_
  exact kk u v _ _ (hI' u v hu hv) (k_rotP hP) (k_rotD hD) hS
set_option maxHeartbeats 4000000 in
set_option maxRecDepth 100000 in
theorem L_layer (C0 : lw_K G p s m b meth c) (hXs : va_X b L xs s s.heap) (hbl : b < s.heap.size) (hin : ∀ k : Nat, k < 6 → vp_in (x4 + nI k) L) (hl : lv_has ls 7 (lw_l b hX hM q3 x4)) (hI : lw_Inv G hX hM wX wM) (hP : va_P G.1 vwCl ((wO ++ wM) ++ wX) H) (hD : va_D (fun q : Nat => s.heap.size ≤ q) ((wO ++ wM) ++ wX)) (hS : va_S (fun q : Nat => s.heap.size ≤ q) s.heap H locs) (hc9 : cells + 10 ≤ 601024) (hs9 : slots + 64 ≤ 7293034)
    (kk : ∀ (u v : va_W) (H1 : Heap) (locs1 : List Loc), lw_Inv G hX hM u v → va_P G.1 vwCl ((wO ++ v) ++ u) H1 → va_D (fun q : Nat => s.heap.size ≤ q) ((wO ++ v) ++ u) → va_S (fun q : Nat => s.heap.size ≤ q) s.heap H1 locs1 → W p l e room_1 s m #[Value.ref b] below meth c H1 locs1 (cells + 10) (slots + 64) Q (F0 m 2097 ls [])) : W p l e room_1 s m #[Value.ref b] below meth c H locs cells slots Q (F0 m 474 ls []) := by
  obtain ⟨fx, ex⟩ := lw_ix hI
  obtain ⟨fm, em⟩ := lw_im hI
  obtain ⟨r, PX, PM, rm, MX, MM, ⟨r1, r2, r3, r4⟩, hI'⟩ := I_layer (l := l) hI (xs (x4 + nI 1).toNatClampNeg) (xs (x4 + nI 2).toNatClampNeg)
  have hx := C0.1
  have hb := C0.2.1
  have hts := C0.2.2.2.1
  refine lv_aload_n hx hb dL_law_474 rfl (lv_at hl 1 rfl) ?_
  refine lw_arg (k := nI 1) C0 hXs hbl hS hl dL_law_475 dL_law_476 dL_law_478 (by decide) dL_law_479 dL_law_480 (hin 1 (by decide)) ?_
  refine lw_arg (k := nI 2) C0 hXs hbl hS hl dL_law_481 dL_law_482 dL_law_484 (by decide) dL_law_485 dL_law_486 (hin 2 (by decide)) ?_
  refine lw_callVi (wr := wO ++ wM) (ci := 8) (qc := (RX11, TX11, 12)) (rest := []) C0 (MX H.size) (cwV 2 hts gL_law_X11_layer rfl rfl rfl e_X11_layer ⟨Nat.le_of_ble_eq_true rfl, Nat.le_of_ble_eq_true rfl⟩) hP hD hS rfl rfl ex rfl hl.1 rfl (Nat.le_of_ble_eq_true rfl) dL_law_487 ⟨(by show cells + 0 ≤ 601024; omega), (by show slots + 0 ≤ 7293034; omega)⟩ (fun u H1 locs1 hu hP hD hS => ?_)
  have hP := k_rotP hP
  have hD := k_rotD hD
  refine lv_aload_n hx hb dL_law_490 rfl (lv_at hl 2 rfl) ?_
  refine lw_arg (k := nI 1) C0 hXs hbl hS hl dL_law_491 dL_law_492 dL_law_494 (by decide) dL_law_495 dL_law_496 (hin 1 (by decide)) ?_
  refine lw_arg (k := nI 2) C0 hXs hbl hS hl dL_law_497 dL_law_498 dL_law_500 (by decide) dL_law_501 dL_law_502 (hin 2 (by decide)) ?_
  refine lw_callVi (wr := wO ++ u) (ci := 10) (qc := (RX13, TX13, 38)) (rest := [.int r]) C0 (MM H1.size) (cwV 2 hts gL_law_X13_layer rfl r1 r2 e_X13_layer ⟨(by show rm.frames + 1 ≤ 15; omega), (by show 8 + (_ + 11) + rm.locals ≤ 568; omega)⟩) hP hD hS rfl rfl em rfl hl.1 rfl (Nat.le_of_ble_eq_true rfl) dL_law_503 ⟨(by show cells + 0 + 0 ≤ 601024; omega), (by show slots + 0 + 0 ≤ 7293034; omega)⟩ (fun v H2 locs2 hv hP hD hS => ?_)
  refine lv_icmp_eq (tgt := 2097) hx hb dL_law_506 (by decide) (fun _ => ?_) (fun h => absurd rfl h)
  refine W.widen (k := cells + 10) (n := slots + 64) (by omega) (by omega) ?_
  exact kk u v _ _ (hI' u v hu hv) (k_rotP hP) (k_rotD hD) hS
set_option maxHeartbeats 4000000 in
set_option maxRecDepth 100000 in
theorem L_hex (C0 : lw_K G p s m b meth c) (hXs : va_X b L xs s s.heap) (hbl : b < s.heap.size) (hin : ∀ k : Nat, k < 6 → vp_in (x4 + nI k) L) (hl : lv_has ls 7 (lw_l b hX hM q3 x4)) (hI : lw_Inv G hX hM wX wM) (hP : va_P G.1 vwCl ((wO ++ wM) ++ wX) H) (hD : va_D (fun q : Nat => s.heap.size ≤ q) ((wO ++ wM) ++ wX)) (hS : va_S (fun q : Nat => s.heap.size ≤ q) s.heap H locs) (hc9 : cells + 10 ≤ 601024) (hs9 : slots + 64 ≤ 7293034)
    (kk : ∀ (u v : va_W) (H1 : Heap) (locs1 : List Loc), lw_Inv G hX hM u v → va_P G.1 vwCl ((wO ++ v) ++ u) H1 → va_D (fun q : Nat => s.heap.size ≤ q) ((wO ++ v) ++ u) → va_S (fun q : Nat => s.heap.size ≤ q) s.heap H1 locs1 → W p l e room_1 s m #[Value.ref b] below meth c H1 locs1 (cells + 10) (slots + 64) Q (F0 m 2097 ls [])) : W p l e room_1 s m #[Value.ref b] below meth c H locs cells slots Q (F0 m 511 ls []) := by
  obtain ⟨fx, ex⟩ := lw_ix hI
  obtain ⟨fm, em⟩ := lw_im hI
  obtain ⟨r, PX, PM, rm, MX, MM, ⟨r1, r2, r3, r4⟩, hI'⟩ := I_hex (l := l) hI (xs (x4 + nI 1).toNatClampNeg) (xs (x4 + nI 2).toNatClampNeg)
  have hx := C0.1
  have hb := C0.2.1
  have hts := C0.2.2.2.1
  refine lv_aload_n hx hb dL_law_511 rfl (lv_at hl 1 rfl) ?_
  refine lw_arg (k := nI 1) C0 hXs hbl hS hl dL_law_512 dL_law_513 dL_law_515 (by decide) dL_law_516 dL_law_517 (hin 1 (by decide)) ?_
  refine lw_arg (k := nI 2) C0 hXs hbl hS hl dL_law_518 dL_law_519 dL_law_521 (by decide) dL_law_522 dL_law_523 (hin 2 (by decide)) ?_
  refine lw_callVi (wr := wO ++ wM) (ci := 8) (qc := (RX11, TX11, 12)) (rest := []) C0 (MX H.size) (cwV 2 hts gL_law_X11_hex rfl rfl rfl e_X11_hex ⟨Nat.le_of_ble_eq_true rfl, Nat.le_of_ble_eq_true rfl⟩) hP hD hS rfl rfl ex rfl hl.1 rfl (Nat.le_of_ble_eq_true rfl) dL_law_524 ⟨(by show cells + 0 ≤ 601024; omega), (by show slots + 0 ≤ 7293034; omega)⟩ (fun u H1 locs1 hu hP hD hS => ?_)
  have hP := k_rotP hP
  have hD := k_rotD hD
  refine lv_aload_n hx hb dL_law_527 rfl (lv_at hl 2 rfl) ?_
  refine lw_arg (k := nI 1) C0 hXs hbl hS hl dL_law_528 dL_law_529 dL_law_531 (by decide) dL_law_532 dL_law_533 (hin 1 (by decide)) ?_
  refine lw_arg (k := nI 2) C0 hXs hbl hS hl dL_law_534 dL_law_535 dL_law_537 (by decide) dL_law_538 dL_law_539 (hin 2 (by decide)) ?_
  refine lw_callVi (wr := wO ++ u) (ci := 10) (qc := (RX13, TX13, 38)) (rest := [.int r]) C0 (MM H1.size) (cwV 2 hts gL_law_X13_hex rfl r1 r2 e_X13_hex ⟨(by show rm.frames + 1 ≤ 15; omega), (by show 8 + (_ + 11) + rm.locals ≤ 568; omega)⟩) hP hD hS rfl rfl em rfl hl.1 rfl (Nat.le_of_ble_eq_true rfl) dL_law_540 ⟨(by show cells + 0 + 0 ≤ 601024; omega), (by show slots + 0 + 0 ≤ 7293034; omega)⟩ (fun v H2 locs2 hv hP hD hS => ?_)
  refine lv_icmp_eq (tgt := 2097) hx hb dL_law_543 (by decide) (fun _ => ?_) (fun h => absurd rfl h)
  refine W.widen (k := cells + 10) (n := slots + 64) (by omega) (by omega) ?_
  exact kk u v _ _ (hI' u v hu hv) (k_rotP hP) (k_rotD hD) hS
set_option maxHeartbeats 4000000 in
set_option maxRecDepth 100000 in
theorem L_run (C0 : lw_K G p s m b meth c) (hXs : va_X b L xs s s.heap) (hbl : b < s.heap.size) (hin : ∀ k : Nat, k < 6 → vp_in (x4 + nI k) L) (hl : lv_has ls 7 (lw_l b hX hM q3 x4)) (hI : lw_Inv G hX hM wX wM) (hP : va_P G.1 vwCl ((wO ++ wM) ++ wX) H) (hD : va_D (fun q : Nat => s.heap.size ≤ q) ((wO ++ wM) ++ wX)) (hS : va_S (fun q : Nat => s.heap.size ≤ q) s.heap H locs) (hc9 : cells + 10 ≤ 601024) (hs9 : slots + 64 ≤ 7293034)
    (kk : ∀ (u v : va_W) (H1 : Heap) (locs1 : List Loc), lw_Inv G hX hM u v → va_P G.1 vwCl ((wO ++ v) ++ u) H1 → va_D (fun q : Nat => s.heap.size ≤ q) ((wO ++ v) ++ u) → va_S (fun q : Nat => s.heap.size ≤ q) s.heap H1 locs1 → W p l e room_1 s m #[Value.ref b] below meth c H1 locs1 (cells + 10) (slots + 64) Q (F0 m 2097 ls [])) : W p l e room_1 s m #[Value.ref b] below meth c H locs cells slots Q (F0 m 548 ls []) := by
  obtain ⟨fx, ex⟩ := lw_ix hI
  obtain ⟨fm, em⟩ := lw_im hI
  obtain ⟨r, PX, PM, rm, MX, MM, ⟨r1, r2, r3, r4⟩, hI'⟩ := I_run (l := l) hI (xs (x4 + nI 1).toNatClampNeg) (xs (x4 + nI 2).toNatClampNeg)
  have hx := C0.1
  have hb := C0.2.1
  have hts := C0.2.2.2.1
  refine lv_aload_n hx hb dL_law_548 rfl (lv_at hl 1 rfl) ?_
  refine lw_arg (k := nI 1) C0 hXs hbl hS hl dL_law_549 dL_law_550 dL_law_552 (by decide) dL_law_553 dL_law_554 (hin 1 (by decide)) ?_
  refine lw_arg (k := nI 2) C0 hXs hbl hS hl dL_law_555 dL_law_556 dL_law_558 (by decide) dL_law_559 dL_law_560 (hin 2 (by decide)) ?_
  refine lw_callVi (wr := wO ++ wM) (ci := 8) (qc := (RX11, TX11, 12)) (rest := []) C0 (MX H.size) (cwV 2 hts gL_law_X11_run rfl rfl rfl e_X11_run ⟨Nat.le_of_ble_eq_true rfl, Nat.le_of_ble_eq_true rfl⟩) hP hD hS rfl rfl ex rfl hl.1 rfl (Nat.le_of_ble_eq_true rfl) dL_law_561 ⟨(by show cells + 0 ≤ 601024; omega), (by show slots + 0 ≤ 7293034; omega)⟩ (fun u H1 locs1 hu hP hD hS => ?_)
  have hP := k_rotP hP
  have hD := k_rotD hD
  refine lv_aload_n hx hb dL_law_564 rfl (lv_at hl 2 rfl) ?_
  refine lw_arg (k := nI 1) C0 hXs hbl hS hl dL_law_565 dL_law_566 dL_law_568 (by decide) dL_law_569 dL_law_570 (hin 1 (by decide)) ?_
  refine lw_arg (k := nI 2) C0 hXs hbl hS hl dL_law_571 dL_law_572 dL_law_574 (by decide) dL_law_575 dL_law_576 (hin 2 (by decide)) ?_
  refine lw_callVi (wr := wO ++ u) (ci := 10) (qc := (RX13, TX13, 38)) (rest := [.int r]) C0 (MM H1.size) (cwV 2 hts gL_law_X13_run rfl r1 r2 e_X13_run ⟨(by show rm.frames + 1 ≤ 15; omega), (by show 8 + (_ + 11) + rm.locals ≤ 568; omega)⟩) hP hD hS rfl rfl em rfl hl.1 rfl (Nat.le_of_ble_eq_true rfl) dL_law_577 ⟨(by show cells + 0 + 0 ≤ 601024; omega), (by show slots + 0 + 0 ≤ 7293034; omega)⟩ (fun v H2 locs2 hv hP hD hS => ?_)
  refine lv_icmp_eq (tgt := 2097) hx hb dL_law_580 (by decide) (fun _ => ?_) (fun h => absurd rfl h)
  refine W.widen (k := cells + 10) (n := slots + 64) (by omega) (by omega) ?_
  exact kk u v _ _ (hI' u v hu hv) (k_rotP hP) (k_rotD hD) hS
set_option maxHeartbeats 4000000 in
set_option maxRecDepth 100000 in
theorem L_agree (C0 : lw_K G p s m b meth c) (hXs : va_X b L xs s s.heap) (hbl : b < s.heap.size) (hin : ∀ k : Nat, k < 6 → vp_in (x4 + nI k) L) (hl : lv_has ls 7 (lw_l b hX hM q3 x4)) (hI : lw_Inv G hX hM wX wM) (hP : va_P G.1 vwCl ((wO ++ wM) ++ wX) H) (hD : va_D (fun q : Nat => s.heap.size ≤ q) ((wO ++ wM) ++ wX)) (hS : va_S (fun q : Nat => s.heap.size ≤ q) s.heap H locs) (hc9 : cells + 10 ≤ 601024) (hs9 : slots + 64 ≤ 7293034)
    (kk : ∀ (u v : va_W) (H1 : Heap) (locs1 : List Loc), lw_Inv G hX hM u v → va_P G.1 vwCl ((wO ++ v) ++ u) H1 → va_D (fun q : Nat => s.heap.size ≤ q) ((wO ++ v) ++ u) → va_S (fun q : Nat => s.heap.size ≤ q) s.heap H1 locs1 → W p l e room_1 s m #[Value.ref b] below meth c H1 locs1 (cells + 10) (slots + 64) Q (F0 m 2097 ls [])) : W p l e room_1 s m #[Value.ref b] below meth c H locs cells slots Q (F0 m 585 ls []) := by
  obtain ⟨fx, ex⟩ := lw_ix hI
  obtain ⟨fm, em⟩ := lw_im hI
  obtain ⟨r, PX, PM, rm, MX, MM, ⟨r1, r2, r3, r4⟩, hI'⟩ := I_agree (l := l) hI (xs (x4 + nI 1).toNatClampNeg) (xs (x4 + nI 2).toNatClampNeg)
  have hx := C0.1
  have hb := C0.2.1
  have hts := C0.2.2.2.1
  refine lv_aload_n hx hb dL_law_585 rfl (lv_at hl 1 rfl) ?_
  refine lw_arg (k := nI 1) C0 hXs hbl hS hl dL_law_586 dL_law_587 dL_law_589 (by decide) dL_law_590 dL_law_591 (hin 1 (by decide)) ?_
  refine lw_arg (k := nI 2) C0 hXs hbl hS hl dL_law_592 dL_law_593 dL_law_595 (by decide) dL_law_596 dL_law_597 (hin 2 (by decide)) ?_
  refine lw_callVi (wr := wO ++ wM) (ci := 8) (qc := (RX11, TX11, 12)) (rest := []) C0 (MX H.size) (cwV 2 hts gL_law_X11_agree rfl rfl rfl e_X11_agree ⟨Nat.le_of_ble_eq_true rfl, Nat.le_of_ble_eq_true rfl⟩) hP hD hS rfl rfl ex rfl hl.1 rfl (Nat.le_of_ble_eq_true rfl) dL_law_598 ⟨(by show cells + 0 ≤ 601024; omega), (by show slots + 0 ≤ 7293034; omega)⟩ (fun u H1 locs1 hu hP hD hS => ?_)
  have hP := k_rotP hP
  have hD := k_rotD hD
  refine lv_aload_n hx hb dL_law_601 rfl (lv_at hl 2 rfl) ?_
  refine lw_arg (k := nI 1) C0 hXs hbl hS hl dL_law_602 dL_law_603 dL_law_605 (by decide) dL_law_606 dL_law_607 (hin 1 (by decide)) ?_
  refine lw_arg (k := nI 2) C0 hXs hbl hS hl dL_law_608 dL_law_609 dL_law_611 (by decide) dL_law_612 dL_law_613 (hin 2 (by decide)) ?_
  refine lw_callVi (wr := wO ++ u) (ci := 10) (qc := (RX13, TX13, 38)) (rest := [.int r]) C0 (MM H1.size) (cwV 2 hts gL_law_X13_agree rfl r1 r2 e_X13_agree ⟨(by show rm.frames + 1 ≤ 15; omega), (by show 8 + (_ + 11) + rm.locals ≤ 568; omega)⟩) hP hD hS rfl rfl em rfl hl.1 rfl (Nat.le_of_ble_eq_true rfl) dL_law_614 ⟨(by show cells + 0 + 0 ≤ 601024; omega), (by show slots + 0 + 0 ≤ 7293034; omega)⟩ (fun v H2 locs2 hv hP hD hS => ?_)
  refine lv_icmp_eq (tgt := 2097) hx hb dL_law_617 (by decide) (fun _ => ?_) (fun h => absurd rfl h)
  refine W.widen (k := cells + 10) (n := slots + 64) (by omega) (by omega) ?_
  exact kk u v _ _ (hI' u v hu hv) (k_rotP hP) (k_rotD hD) hS
end LW
