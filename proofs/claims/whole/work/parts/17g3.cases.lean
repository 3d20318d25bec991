/-! THE LAW: case by case -/
section LW
variable {p : Program} {l : Launch} {e : Env} {s : State} {m : MethodId} {below : List Frame} {meth : Method} {c : Code} {H : Heap} {locs : List Loc} {cells slots : Nat} {Q : State → Prop} {G : k_G} {b L : Nat} {xs : Nat → Int32} {hX hM q3 : Nat} {x4 : Int32} {ls : Array Slot} {wX wM wO : va_W}
set_option maxHeartbeats 4000000 in
set_option maxRecDepth 100000 in
theorem L_relaxed (C0 : lw_K G p s m b meth c) (hXs : va_X b L xs s s.heap) (hbl : b < s.heap.size) (hin : ∀ k : Nat, k < 6 → vp_in (x4 + nI k) L) (hl : lv_has ls 7 (lw_l b hX hM q3 x4)) (hI : lw_Inv G hX hM wX wM) (hP : va_P G.1 vwCl ((wO ++ wM) ++ wX) H) (hD : va_D (fun q : Nat => s.heap.size ≤ q) ((wO ++ wM) ++ wX)) (hS : va_S (fun q : Nat => s.heap.size ≤ q) s.heap H locs) (hc9 : cells + 10 ≤ 601024) (hs9 : slots + 64 ≤ 7293034)
    (kk : ∀ (u v : va_W) (H1 : Heap) (locs1 : List Loc), lw_Inv G hX hM u v → va_P G.1 vwCl ((wO ++ v) ++ u) H1 → va_D (fun q : Nat => s.heap.size ≤ q) ((wO ++ v) ++ u) → va_S (fun q : Nat => s.heap.size ≤ q) s.heap H1 locs1 → W p l e room_1 s m #[Value.ref b] below meth c H1 locs1 (cells + 10) (slots + 64) Q (F0 m 2097 ls [])) : W p l e room_1 s m #[Value.ref b] below meth c H locs cells slots Q (F0 m 1250 ls []) := by
  obtain ⟨fx, ex⟩ := lw_ix hI
  obtain ⟨fm, em⟩ := lw_im hI
  obtain ⟨r, PX, PM, rm, MX, MM, ⟨r1, r2, r3, r4⟩, hI'⟩ := I_relaxed (l := l) hI (xs (x4 + nI 1).toNatClampNeg)
  have hx := C0.1
  have hb := C0.2.1
  have hts := C0.2.2.2.1
  refine lv_aload_n hx hb dL_law_1250 rfl (lv_at hl 1 rfl) ?_
  refine lw_arg (k := nI 1) C0 hXs hbl hS hl dL_law_1251 dL_law_1252 dL_law_1254 (by decide) dL_law_1255 dL_law_1256 (hin 1 (by decide)) ?_
  refine lw_callVi (wr := wO ++ wM) (ci := 8) (qc := (RX11, TX11, 12)) (rest := []) C0 (MX H.size) (cwV 1 hts gL_law_X11_relaxed rfl rfl rfl e_X11_relaxed ⟨Nat.le_of_ble_eq_true rfl, Nat.le_of_ble_eq_true rfl⟩) hP hD hS rfl rfl ex rfl hl.1 rfl (Nat.le_of_ble_eq_true rfl) dL_law_1257 ⟨(by show cells + 0 ≤ 601024; omega), (by show slots + 0 ≤ 7293034; omega)⟩ (fun u H1 locs1 hu hP hD hS => ?_)
  have hP := k_rotP hP
  have hD := k_rotD hD
  refine lv_aload_n hx hb dL_law_1260 rfl (lv_at hl 2 rfl) ?_
  refine lw_arg (k := nI 1) C0 hXs hbl hS hl dL_law_1261 dL_law_1262 dL_law_1264 (by decide) dL_law_1265 dL_law_1266 (hin 1 (by decide)) ?_
  refine lw_callVi (wr := wO ++ u) (ci := 10) (qc := (RX13, TX13, 38)) (rest := [.int r]) C0 (MM H1.size) (cwV 1 hts gL_law_X13_relaxed rfl r1 r2 e_X13_relaxed ⟨(by show rm.frames + 1 ≤ 15; omega), (by show 8 + (_ + 11) + rm.locals ≤ 568; omega)⟩) hP hD hS rfl rfl em rfl hl.1 rfl (Nat.le_of_ble_eq_true rfl) dL_law_1267 ⟨(by show cells + 0 + 0 ≤ 601024; omega), (by show slots + 0 + 0 ≤ 7293034; omega)⟩ (fun v H2 locs2 hv hP hD hS => ?_)
  refine lv_icmp_eq (tgt := 2097) hx hb dL_law_1270 (by decide) (fun _ => ?_) (fun h => absurd rfl h)
  refine W.widen (k := cells + 10) (n := slots + 64) (by omega) (by omega) ?_
  exact kk u v _ _ (hI' u v hu hv) (k_rotP hP) (k_rotD hD) hS
set_option maxHeartbeats 4000000 in
set_option maxRecDepth 100000 in
theorem L_pass (C0 : lw_K G p s m b meth c) (hXs : va_X b L xs s s.heap) (hbl : b < s.heap.size) (hin : ∀ k : Nat, k < 6 → vp_in (x4 + nI k) L) (hl : lv_has ls 7 (lw_l b hX hM q3 x4)) (hI : lw_Inv G hX hM wX wM) (hP : va_P G.1 vwCl ((wO ++ wM) ++ wX) H) (hD : va_D (fun q : Nat => s.heap.size ≤ q) ((wO ++ wM) ++ wX)) (hS : va_S (fun q : Nat => s.heap.size ≤ q) s.heap H locs) (hc9 : cells + 10 ≤ 601024) (hs9 : slots + 64 ≤ 7293034)
    (kk : ∀ (u v : va_W) (H1 : Heap) (locs1 : List Loc), lw_Inv G hX hM u v → va_P G.1 vwCl ((wO ++ v) ++ u) H1 → va_D (fun q : Nat => s.heap.size ≤ q) ((wO ++ v) ++ u) → va_S (fun q : Nat => s.heap.size ≤ q) s.heap H1 locs1 → W p l e room_1 s m #[Value.ref b] below meth c H1 locs1 (cells + 10) (slots + 64) Q (F0 m 2097 ls [])) : W p l e room_1 s m #[Value.ref b] below meth c H locs cells slots Q (F0 m 1275 ls []) := by
  obtain ⟨fx, ex⟩ := lw_ix hI
  obtain ⟨fm, em⟩ := lw_im hI
  obtain ⟨r, PX, PM, rm, MX, MM, ⟨r1, r2, r3, r4⟩, hI'⟩ := I_pass (l := l) hI (xs (x4 + nI 1).toNatClampNeg) (xs (x4 + nI 2).toNatClampNeg)
  have hx := C0.1
  have hb := C0.2.1
  have hts := C0.2.2.2.1
  refine lv_aload_n hx hb dL_law_1275 rfl (lv_at hl 1 rfl) ?_
  refine lw_arg (k := nI 1) C0 hXs hbl hS hl dL_law_1276 dL_law_1277 dL_law_1279 (by decide) dL_law_1280 dL_law_1281 (hin 1 (by decide)) ?_
  refine lw_arg (k := nI 2) C0 hXs hbl hS hl dL_law_1282 dL_law_1283 dL_law_1285 (by decide) dL_law_1286 dL_law_1287 (hin 2 (by decide)) ?_
  refine lw_callVi (wr := wO ++ wM) (ci := 8) (qc := (RX11, TX11, 12)) (rest := []) C0 (MX H.size) (cwV 2 hts gL_law_X11_pass rfl rfl rfl e_X11_pass ⟨Nat.le_of_ble_eq_true rfl, Nat.le_of_ble_eq_true rfl⟩) hP hD hS rfl rfl ex rfl hl.1 rfl (Nat.le_of_ble_eq_true rfl) dL_law_1288 ⟨(by show cells + 0 ≤ 601024; omega), (by show slots + 0 ≤ 7293034; omega)⟩ (fun u H1 locs1 hu hP hD hS => ?_)
  have hP := k_rotP hP
  have hD := k_rotD hD
  refine lv_aload_n hx hb dL_law_1291 rfl (lv_at hl 2 rfl) ?_
  refine lw_arg (k := nI 1) C0 hXs hbl hS hl dL_law_1292 dL_law_1293 dL_law_1295 (by decide) dL_law_1296 dL_law_1297 (hin 1 (by decide)) ?_
  refine lw_arg (k := nI 2) C0 hXs hbl hS hl dL_law_1298 dL_law_1299 dL_law_1301 (by decide) dL_law_1302 dL_law_1303 (hin 2 (by decide)) ?_
  refine lw_callVi (wr := wO ++ u) (ci := 10) (qc := (RX13, TX13, 38)) (rest := [.int r]) C0 (MM H1.size) (cwV 2 hts gL_law_X13_pass rfl r1 r2 e_X13_pass ⟨(by show rm.frames + 1 ≤ 15; omega), (by show 8 + (_ + 11) + rm.locals ≤ 568; omega)⟩) hP hD hS rfl rfl em rfl hl.1 rfl (Nat.le_of_ble_eq_true rfl) dL_law_1304 ⟨(by show cells + 0 + 0 ≤ 601024; omega), (by show slots + 0 + 0 ≤ 7293034; omega)⟩ (fun v H2 locs2 hv hP hD hS => ?_)
  refine lv_icmp_eq (tgt := 2097) hx hb dL_law_1307 (by decide) (fun _ => ?_) (fun h => absurd rfl h)
  refine W.widen (k := cells + 10) (n := slots + 64) (by omega) (by omega) ?_
  exact kk u v _ _ (hI' u v hu hv) (k_rotP hP) (k_rotD hD) hS
set_option maxHeartbeats 4000000 in
set_option maxRecDepth 100000 in
theorem L_valley (C0 : lw_K G p s m b meth c) (hXs : va_X b L xs s s.heap) (hbl : b < s.heap.size) (hin : ∀ k : Nat, k < 6 → vp_in (x4 + nI k) L) (hl : lv_has ls 7 (lw_l b hX hM q3 x4)) (hI : lw_Inv G hX hM wX wM) (hP : va_P G.1 vwCl ((wO ++ wM) ++ wX) H) (hD : va_D (fun q : Nat => s.heap.size ≤ q) ((wO ++ wM) ++ wX)) (hS : va_S (fun q : Nat => s.heap.size ≤ q) s.heap H locs) (hc9 : cells + 10 ≤ 601024) (hs9 : slots + 64 ≤ 7293034)
    (kk : ∀ (u v : va_W) (H1 : Heap) (locs1 : List Loc), lw_Inv G hX hM u v → va_P G.1 vwCl ((wO ++ v) ++ u) H1 → va_D (fun q : Nat => s.heap.size ≤ q) ((wO ++ v) ++ u) → va_S (fun q : Nat => s.heap.size ≤ q) s.heap H1 locs1 → W p l e room_1 s m #[Value.ref b] below meth c H1 locs1 (cells + 10) (slots + 64) Q (F0 m 2097 ls [])) : W p l e room_1 s m #[Value.ref b] below meth c H locs cells slots Q (F0 m 1312 ls []) := by
  obtain ⟨fx, ex⟩ := lw_ix hI
  obtain ⟨fm, em⟩ := lw_im hI
  obtain ⟨r, PX, PM, rm, MX, MM, ⟨r1, r2, r3, r4⟩, hI'⟩ := I_valley (l := l) hI (xs (x4 + nI 1).toNatClampNeg)
  have hx := C0.1
  have hb := C0.2.1
  have hts := C0.2.2.2.1
  refine lv_aload_n hx hb dL_law_1312 rfl (lv_at hl 1 rfl) ?_
  refine lw_arg (k := nI 1) C0 hXs hbl hS hl dL_law_1313 dL_law_1314 dL_law_1316 (by decide) dL_law_1317 dL_law_1318 (hin 1 (by decide)) ?_
  refine lw_callVi (wr := wO ++ wM) (ci := 8) (qc := (RX11, TX11, 12)) (rest := []) C0 (MX H.size) (cwV 1 hts gL_law_X11_valley rfl rfl rfl e_X11_valley ⟨Nat.le_of_ble_eq_true rfl, Nat.le_of_ble_eq_true rfl⟩) hP hD hS rfl rfl ex rfl hl.1 rfl (Nat.le_of_ble_eq_true rfl) dL_law_1319 ⟨(by show cells + 0 ≤ 601024; omega), (by show slots + 0 ≤ 7293034; omega)⟩ (fun u H1 locs1 hu hP hD hS => ?_)
  have hP := k_rotP hP
  have hD := k_rotD hD
  refine lv_aload_n hx hb dL_law_1322 rfl (lv_at hl 2 rfl) ?_
  refine lw_arg (k := nI 1) C0 hXs hbl hS hl dL_law_1323 dL_law_1324 dL_law_1326 (by decide) dL_law_1327 dL_law_1328 (hin 1 (by decide)) ?_
  refine lw_callVi (wr := wO ++ u) (ci := 10) (qc := (RX13, TX13, 38)) (rest := [.int r]) C0 (MM H1.size) (cwV 1 hts gL_law_X13_valley rfl r1 r2 e_X13_valley ⟨(by show rm.frames + 1 ≤ 15; omega), (by show 8 + (_ + 11) + rm.locals ≤ 568; omega)⟩) hP hD hS rfl rfl em rfl hl.1 rfl (Nat.le_of_ble_eq_true rfl) dL_law_1329 ⟨(by show cells + 0 + 0 ≤ 601024; omega), (by show slots + 0 + 0 ≤ 7293034; omega)⟩ (fun v H2 locs2 hv hP hD hS => ?_)
  refine lv_icmp_eq (tgt := 2097) hx hb dL_law_1332 (by decide) (fun _ => ?_) (fun h => absurd rfl h)
  refine W.widen (k := cells + 10) (n := slots + 64) (by omega) (by omega) ?_
  exact kk u v _ _ (hI' u v hu hv) (k_rotP hP) (k_rotD hD) hS
set_option maxHeartbeats 4000000 in
set_option maxRecDepth 100000 in
theorem L_faultEnergy (C0 : lw_K G p s m b meth c) (hXs : va_X b L xs s s.heap) (hbl : b < s.heap.size) (hin : ∀ k : Nat, k < 6 → vp_in (x4 + nI k) L) (hl : lv_has ls 7 (lw_l b hX hM q3 x4)) (hI : lw_Inv G hX hM wX wM) (hP : va_P G.1 vwCl ((wO ++ wM) ++ wX) H) (hD : va_D (fun q : Nat => s.heap.size ≤ q) ((wO ++ wM) ++ wX)) (hS : va_S (fun q : Nat => s.heap.size ≤ q) s.heap H locs) (hc9 : cells + 10 ≤ 601024) (hs9 : slots + 64 ≤ 7293034)
    (kk : ∀ (u v : va_W) (H1 : Heap) (locs1 : List Loc), lw_Inv G hX hM u v → va_P G.1 vwCl ((wO ++ v) ++ u) H1 → va_D (fun q : Nat => s.heap.size ≤ q) ((wO ++ v) ++ u) → va_S (fun q : Nat => s.heap.size ≤ q) s.heap H1 locs1 → W p l e room_1 s m #[Value.ref b] below meth c H1 locs1 (cells + 10) (slots + 64) Q (F0 m 2097 ls [])) : W p l e room_1 s m #[Value.ref b] below meth c H locs cells slots Q (F0 m 1337 ls []) := by
  obtain ⟨fx, ex⟩ := lw_ix hI
  obtain ⟨fm, em⟩ := lw_im hI
  obtain ⟨r, PX, PM, rm, MX, MM, ⟨r1, r2, r3, r4⟩, hI'⟩ := I_faultEnergy (l := l) hI (xs (x4 + nI 1).toNatClampNeg) (xs (x4 + nI 2).toNatClampNeg)
  have hx := C0.1
  have hb := C0.2.1
  have hts := C0.2.2.2.1
  refine lv_aload_n hx hb dL_law_1337 rfl (lv_at hl 1 rfl) ?_
  refine lw_arg (k := nI 1) C0 hXs hbl hS hl dL_law_1338 dL_law_1339 dL_law_1341 (by decide) dL_law_1342 dL_law_1343 (hin 1 (by decide)) ?_
  refine lw_arg (k := nI 2) C0 hXs hbl hS hl dL_law_1344 dL_law_1345 dL_law_1347 (by decide) dL_law_1348 dL_law_1349 (hin 2 (by decide)) ?_
  refine lw_callVi (wr := wO ++ wM) (ci := 8) (qc := (RX11, TX11, 12)) (rest := []) C0 (MX H.size) (cwV 2 hts gL_law_X11_faultEnergy rfl rfl rfl e_X11_faultEnergy ⟨Nat.le_of_ble_eq_true rfl, Nat.le_of_ble_eq_true rfl⟩) hP hD hS rfl rfl ex rfl hl.1 rfl (Nat.le_of_ble_eq_true rfl) dL_law_1350 ⟨(by show cells + 0 ≤ 601024; omega), (by show slots + 0 ≤ 7293034; omega)⟩ (fun u H1 locs1 hu hP hD hS => ?_)
  have hP := k_rotP hP
  have hD := k_rotD hD
  refine lv_aload_n hx hb dL_law_1353 rfl (lv_at hl 2 rfl) ?_
  refine lw_arg (k := nI 1) C0 hXs hbl hS hl dL_law_1354 dL_law_1355 dL_law_1357 (by decide) dL_law_1358 dL_law_1359 (hin 1 (by decide)) ?_
  refine lw_arg (k := nI 2) C0 hXs hbl hS hl dL_law_1360 dL_law_1361 dL_law_1363 (by decide) dL_law_1364 dL_law_1365 (hin 2 (by decide)) ?_
  refine lw_callVi (wr := wO ++ u) (ci := 10) (qc := (RX13, TX13, 38)) (rest := [.int r]) C0 (MM H1.size) (cwV 2 hts gL_law_X13_faultEnergy rfl r1 r2 e_X13_faultEnergy ⟨(by show rm.frames + 1 ≤ 15; omega), (by show 8 + (_ + 11) + rm.locals ≤ 568; omega)⟩) hP hD hS rfl rfl em rfl hl.1 rfl (Nat.le_of_ble_eq_true rfl) dL_law_1366 ⟨(by show cells + 0 + 0 ≤ 601024; omega), (by show slots + 0 + 0 ≤ 7293034; omega)⟩ (fun v H2 locs2 hv hP hD hS => ?_)
  refine lv_icmp_eq (tgt := 2097) hx hb dL_law_1369 (by decide) (fun _ => ?_) (fun h => absurd rfl h)
  refine W.widen (k := cells + 10) (n := slots + 64) (by omega) (by omega) ?_
  exact kk u v _ _ (hI' u v hu hv) (k_rotP hP) (k_rotD hD) hS
set_option maxHeartbeats 4000000 in
set_option maxRecDepth 100000 in
theorem L_bestFault (C0 : lw_K G p s m b meth c) (hXs : va_X b L xs s s.heap) (hbl : b < s.heap.size) (hin : ∀ k : Nat, k < 6 → vp_in (x4 + nI k) L) (hl : lv_has ls 7 (lw_l b hX hM q3 x4)) (hI : lw_Inv G hX hM wX wM) (hP : va_P G.1 vwCl ((wO ++ wM) ++ wX) H) (hD : va_D (fun q : Nat => s.heap.size ≤ q) ((wO ++ wM) ++ wX)) (hS : va_S (fun q : Nat => s.heap.size ≤ q) s.heap H locs) (hc9 : cells + 10 ≤ 601024) (hs9 : slots + 64 ≤ 7293034)
    (kk : ∀ (u v : va_W) (H1 : Heap) (locs1 : List Loc), lw_Inv G hX hM u v → va_P G.1 vwCl ((wO ++ v) ++ u) H1 → va_D (fun q : Nat => s.heap.size ≤ q) ((wO ++ v) ++ u) → va_S (fun q : Nat => s.heap.size ≤ q) s.heap H1 locs1 → W p l e room_1 s m #[Value.ref b] below meth c H1 locs1 (cells + 10) (slots + 64) Q (F0 m 2097 ls [])) : W p l e room_1 s m #[Value.ref b] below meth c H locs cells slots Q (F0 m 1374 ls []) := by
  obtain ⟨fx, ex⟩ := lw_ix hI
  obtain ⟨fm, em⟩ := lw_im hI
  obtain ⟨r, PX, PM, rm, MX, MM, ⟨r1, r2, r3, r4⟩, hI'⟩ := I_bestFault (l := l) hI (xs (x4 + nI 1).toNatClampNeg)
  have hx := C0.1
  have hb := C0.2.1
  have hts := C0.2.2.2.1
  refine lv_aload_n hx hb dL_law_1374 rfl (lv_at hl 1 rfl) ?_
  refine lw_arg (k := nI 1) C0 hXs hbl hS hl dL_law_1375 dL_law_1376 dL_law_1378 (by decide) dL_law_1379 dL_law_1380 (hin 1 (by decide)) ?_
  refine lw_callVi (wr := wO ++ wM) (ci := 8) (qc := (RX11, TX11, 12)) (rest := []) C0 (MX H.size) (cwV 1 hts gL_law_X11_bestFault rfl rfl rfl e_X11_bestFault ⟨Nat.le_of_ble_eq_true rfl, Nat.le_of_ble_eq_true rfl⟩) hP hD hS rfl rfl ex rfl hl.1 rfl (Nat.le_of_ble_eq_true rfl) dL_law_1381 ⟨(by show cells + 0 ≤ 601024; omega), (by show slots + 0 ≤ 7293034; omega)⟩ (fun u H1 locs1 hu hP hD hS => ?_)
  have hP := k_rotP hP
  have hD := k_rotD hD
  refine lv_aload_n hx hb dL_law_1384 rfl (lv_at hl 2 rfl) ?_
  refine lw_arg (k := nI 1) C0 hXs hbl hS hl dL_law_1385 dL_law_1386 dL_law_1388 (by decide) dL_law_1389 dL_law_1390 (hin 1 (by decide)) ?_
  refine lw_callVi (wr := wO ++ u) (ci := 10) (qc := (RX13, TX13, 38)) (rest := [.int r]) C0 (MM H1.size) (cwV 1 hts gL_law_X13_bestFault rfl r1 r2 e_X13_bestFault ⟨(by show rm.frames + 1 ≤ 15; omega), (by show 8 + (_ + 11) + rm.locals ≤ 568; omega)⟩) hP hD hS rfl rfl em rfl hl.1 rfl (Nat.le_of_ble_eq_true rfl) dL_law_1391 ⟨(by show cells + 0 + 0 ≤ 601024; omega), (by show slots + 0 + 0 ≤ 7293034; omega)⟩ (fun v H2 locs2 hv hP hD hS => ?_)
  refine lv_icmp_eq (tgt := 2097) hx hb dL_law_1394 (by decide) (fun _ => ?_) (fun h => absurd rfl h)
  refine W.widen (k := cells + 10) (n := slots + 64) (by omega) (by omega) ?_
  exact kk u v _ _ (hI' u v hu hv) (k_rotP hP) (k_rotD hD) hS
set_option maxHeartbeats 4000000 in
set_option maxRecDepth 100000 in
theorem L_differs (C0 : lw_K G p s m b meth c) (hXs : va_X b L xs s s.heap) (hbl : b < s.heap.size) (hin : ∀ k : Nat, k < 6 → vp_in (x4 + nI k) L) (hl : lv_has ls 7 (lw_l b hX hM q3 x4)) (hI : lw_Inv G hX hM wX wM) (hP : va_P G.1 vwCl ((wO ++ wM) ++ wX) H) (hD : va_D (fun q : Nat => s.heap.size ≤ q) ((wO ++ wM) ++ wX)) (hS : va_S (fun q : Nat => s.heap.size ≤ q) s.heap H locs) (hc9 : cells + 10 ≤ 601024) (hs9 : slots + 64 ≤ 7293034)
    (kk : ∀ (u v : va_W) (H1 : Heap) (locs1 : List Loc), lw_Inv G hX hM u v → va_P G.1 vwCl ((wO ++ v) ++ u) H1 → va_D (fun q : Nat => s.heap.size ≤ q) ((wO ++ v) ++ u) → va_S (fun q : Nat => s.heap.size ≤ q) s.heap H1 locs1 → W p l e room_1 s m #[Value.ref b] below meth c H1 locs1 (cells + 10) (slots + 64) Q (F0 m 2097 ls [])) : W p l e room_1 s m #[Value.ref b] below meth c H locs cells slots Q (F0 m 1399 ls []) := by
  obtain ⟨fx, ex⟩ := lw_ix hI
  obtain ⟨fm, em⟩ := lw_im hI
  obtain ⟨r, PX, PM, rm, MX, MM, ⟨r1, r2, r3, r4⟩, hI'⟩ := I_differs (l := l) hI (xs (x4 + nI 1).toNatClampNeg) (xs (x4 + nI 2).toNatClampNeg)
  have hx := C0.1
  have hb := C0.2.1
  have hts := C0.2.2.2.1
  refine lv_aload_n hx hb dL_law_1399 rfl (lv_at hl 1 rfl) ?_
  refine lw_arg (k := nI 1) C0 hXs hbl hS hl dL_law_1400 dL_law_1401 dL_law_1403 (by decide) dL_law_1404 dL_law_1405 (hin 1 (by decide)) ?_
  refine lw_arg (k := nI 2) C0 hXs hbl hS hl dL_law_1406 dL_law_1407 dL_law_1409 (by decide) dL_law_1410 dL_law_1411 (hin 2 (by decide)) ?_
  refine lw_callVi (wr := wO ++ wM) (ci := 8) (qc := (RX11, TX11, 12)) (rest := []) C0 (MX H.size) (cwV 2 hts gL_law_X11_differs rfl rfl rfl e_X11_differs ⟨Nat.le_of_ble_eq_true rfl, Nat.le_of_ble_eq_true rfl⟩) hP hD hS rfl rfl ex rfl hl.1 rfl (Nat.le_of_ble_eq_true rfl) dL_law_1412 ⟨(by show cells + 0 ≤ 601024; omega), (by show slots + 0 ≤ 7293034; omega)⟩ (fun u H1 locs1 hu hP hD hS => ?_)
  have hP := k_rotP hP
  have hD := k_rotD hD
  refine lv_aload_n hx hb dL_law_1415 rfl (lv_at hl 2 rfl) ?_
  refine lw_arg (k := nI 1) C0 hXs hbl hS hl dL_law_1416 dL_law_1417 dL_law_1419 (by decide) dL_law_1420 dL_law_1421 (hin 1 (by decide)) ?_
  refine lw_arg (k := nI 2) C0 hXs hbl hS hl dL_law_1422 dL_law_1423 dL_law_1425 (by decide) dL_law_1426 dL_law_1427 (hin 2 (by decide)) ?_
  refine lw_callVi (wr := wO ++ u) (ci := 10) (qc := (RX13, TX13, 38)) (rest := [.int r]) C0 (MM H1.size) (cwV 2 hts gL_law_X13_differs rfl r1 r2 e_X13_differs ⟨(by show rm.frames + 1 ≤ 15; omega), (by show 8 + (_ + 11) + rm.locals ≤ 568; omega)⟩) hP hD hS rfl rfl em rfl hl.1 rfl (Nat.le_of_ble_eq_true rfl) dL_law_1428 ⟨(by show cells + 0 + 0 ≤ 601024; omega), (by show slots + 0 + 0 ≤ 7293034; omega)⟩ (fun v H2 locs2 hv hP hD hS => ?_)
  refine lv_icmp_eq (tgt := 2097) hx hb dL_law_1431 (by decide) (fun _ => ?_) (fun h => absurd rfl h)
  refine W.widen (k := cells + 10) (n := slots + 64) (by omega) (by omega) ?_
  exact kk u v _ _ (hI' u v hu hv) (k_rotP hP) (k_rotD hD) hS
set_option maxHeartbeats 4000000 in
set_option maxRecDepth 100000 in
theorem L_fits (C0 : lw_K G p s m b meth c) (hXs : va_X b L xs s s.heap) (hbl : b < s.heap.size) (hin : ∀ k : Nat, k < 6 → vp_in (x4 + nI k) L) (hl : lv_has ls 7 (lw_l b hX hM q3 x4)) (hI : lw_Inv G hX hM wX wM) (hP : va_P G.1 vwCl ((wO ++ wM) ++ wX) H) (hD : va_D (fun q : Nat => s.heap.size ≤ q) ((wO ++ wM) ++ wX)) (hS : va_S (fun q : Nat => s.heap.size ≤ q) s.heap H locs) (hc9 : cells + 10 ≤ 601024) (hs9 : slots + 64 ≤ 7293034)
    (kk : ∀ (u v : va_W) (H1 : Heap) (locs1 : List Loc), lw_Inv G hX hM u v → va_P G.1 vwCl ((wO ++ v) ++ u) H1 → va_D (fun q : Nat => s.heap.size ≤ q) ((wO ++ v) ++ u) → va_S (fun q : Nat => s.heap.size ≤ q) s.heap H1 locs1 → W p l e room_1 s m #[Value.ref b] below meth c H1 locs1 (cells + 10) (slots + 64) Q (F0 m 2097 ls [])) : W p l e room_1 s m #[Value.ref b] below meth c H locs cells slots Q (F0 m 1436 ls []) := by
  obtain ⟨fx, ex⟩ := lw_ix hI
  obtain ⟨fm, em⟩ := lw_im hI
  obtain ⟨r, PX, PM, rm, MX, MM, ⟨r1, r2, r3, r4⟩, hI'⟩ := I_fits (l := l) hI 
  have hx := C0.1
  have hb := C0.2.1
  have hts := C0.2.2.2.1
  refine lv_aload_n hx hb dL_law_1436 rfl (lv_at hl 1 rfl) ?_
  refine lw_callVi (wr := wO ++ wM) (ci := 8) (qc := (RX11, TX11, 12)) (rest := []) C0 (MX H.size) (cwV 0 hts gL_law_X11_fits rfl rfl rfl e_X11_fits ⟨Nat.le_of_ble_eq_true rfl, Nat.le_of_ble_eq_true rfl⟩) hP hD hS rfl rfl ex rfl hl.1 rfl (Nat.le_of_ble_eq_true rfl) dL_law_1437 ⟨(by show cells + 0 ≤ 601024; omega), (by show slots + 0 ≤ 7293034; omega)⟩ (fun u H1 locs1 hu hP hD hS => ?_)
  have hP := k_rotP hP
  have hD := k_rotD hD
  refine lv_aload_n hx hb dL_law_1440 rfl (lv_at hl 2 rfl) ?_
  refine lw_callVi (wr := wO ++ u) (ci := 10) (qc := (RX13, TX13, 38)) (rest := [.int r]) C0 (MM H1.size) (cwV 0 hts gL_law_X13_fits rfl r1 r2 e_X13_fits ⟨(by show rm.frames + 1 ≤ 15; omega), (by show 8 + (_ + 11) + rm.locals ≤ 568; omega)⟩) hP hD hS rfl rfl em rfl hl.1 rfl (Nat.le_of_ble_eq_true rfl) dL_law_1441 ⟨(by show cells + 0 + 0 ≤ 601024; omega), (by show slots + 0 + 0 ≤ 7293034; omega)⟩ (fun v H2 locs2 hv hP hD hS => ?_)
  refine lv_icmp_eq (tgt := 2097) hx hb dL_law_1444 (by decide) (fun _ => ?_) (fun h => absurd rfl h)
  refine W.widen (k := cells + 10) (n := slots + 64) (by omega) (by omega) ?_
  exact kk u v _ _ (hI' u v hu hv) (k_rotP hP) (k_rotD hD) hS
set_option maxHeartbeats 4000000 in
set_option maxRecDepth 100000 in
theorem L_fitAt (C0 : lw_K G p s m b meth c) (hXs : va_X b L xs s s.heap) (hbl : b < s.heap.size) (hin : ∀ k : Nat, k < 6 → vp_in (x4 + nI k) L) (hl : lv_has ls 7 (lw_l b hX hM q3 x4)) (hI : lw_Inv G hX hM wX wM) (hP : va_P G.1 vwCl ((wO ++ wM) ++ wX) H) (hD : va_D (fun q : Nat => s.heap.size ≤ q) ((wO ++ wM) ++ wX)) (hS : va_S (fun q : Nat => s.heap.size ≤ q) s.heap H locs) (hc9 : cells + 10 ≤ 601024) (hs9 : slots + 64 ≤ 7293034)
    (kk : ∀ (u v : va_W) (H1 : Heap) (locs1 : List Loc), lw_Inv G hX hM u v → va_P G.1 vwCl ((wO ++ v) ++ u) H1 → va_D (fun q : Nat => s.heap.size ≤ q) ((wO ++ v) ++ u) → va_S (fun q : Nat => s.heap.size ≤ q) s.heap H1 locs1 → W p l e room_1 s m #[Value.ref b] below meth c H1 locs1 (cells + 10) (slots + 64) Q (F0 m 2097 ls [])) : W p l e room_1 s m #[Value.ref b] below meth c H locs cells slots Q (F0 m 1449 ls []) := by
  obtain ⟨fx, ex⟩ := lw_ix hI
  obtain ⟨fm, em⟩ := lw_im hI
  obtain ⟨r, PX, PM, rm, MX, MM, ⟨r1, r2, r3, r4⟩, hI'⟩ := I_fitAt (l := l) hI (xs (x4 + nI 1).toNatClampNeg)
  have hx := C0.1
  have hb := C0.2.1
  have hts := C0.2.2.2.1
  refine lv_aload_n hx hb dL_law_1449 rfl (lv_at hl 1 rfl) ?_
  refine lw_arg (k := nI 1) C0 hXs hbl hS hl dL_law_1450 dL_law_1451 dL_law_1453 (by decide) dL_law_1454 dL_law_1455 (hin 1 (by decide)) ?_
  refine lw_callVi (wr := wO ++ wM) (ci := 8) (qc := (RX11, TX11, 12)) (rest := []) C0 (MX H.size) (cwV 1 hts gL_law_X11_fitAt rfl rfl rfl e_X11_fitAt ⟨Nat.le_of_ble_eq_true rfl, Nat.le_of_ble_eq_true rfl⟩) hP hD hS rfl rfl ex rfl hl.1 rfl (Nat.le_of_ble_eq_true rfl) dL_law_1456 ⟨(by show cells + 0 ≤ 601024; omega), (by show slots + 0 ≤ 7293034; omega)⟩ (fun u H1 locs1 hu hP hD hS => ?_)
  have hP := k_rotP hP
  have hD := k_rotD hD
  refine lv_aload_n hx hb dL_law_1459 rfl (lv_at hl 2 rfl) ?_
  refine lw_arg (k := nI 1) C0 hXs hbl hS hl dL_law_1460 dL_law_1461 dL_law_1463 (by decide) dL_law_1464 dL_law_1465 (hin 1 (by decide)) ?_
  refine lw_callVi (wr := wO ++ u) (ci := 10) (qc := (RX13, TX13, 38)) (rest := [.int r]) C0 (MM H1.size) (cwV 1 hts gL_law_X13_fitAt rfl r1 r2 e_X13_fitAt ⟨(by show rm.frames + 1 ≤ 15; omega), (by show 8 + (_ + 11) + rm.locals ≤ 568; omega)⟩) hP hD hS rfl rfl em rfl hl.1 rfl (Nat.le_of_ble_eq_true rfl) dL_law_1466 ⟨(by show cells + 0 + 0 ≤ 601024; omega), (by show slots + 0 + 0 ≤ 7293034; omega)⟩ (fun v H2 locs2 hv hP hD hS => ?_)
  refine lv_icmp_eq (tgt := 2097) hx hb dL_law_1469 (by decide) (fun _ => ?_) (fun h => absurd rfl h)
  refine W.widen (k := cells + 10) (n := slots + 64) (by omega) (by omega) ?_
  exact kk u v _ _ (hI' u v hu hv) (k_rotP hP) (k_rotD hD) hS
set_option maxHeartbeats 4000000 in
set_option maxRecDepth 100000 in
theorem L_could (C0 : lw_K G p s m b meth c) (hXs : va_X b L xs s s.heap) (hbl : b < s.heap.size) (hin : ∀ k : Nat, k < 6 → vp_in (x4 + nI k) L) (hl : lv_has ls 7 (lw_l b hX hM q3 x4)) (hI : lw_Inv G hX hM wX wM) (hP : va_P G.1 vwCl ((wO ++ wM) ++ wX) H) (hD : va_D (fun q : Nat => s.heap.size ≤ q) ((wO ++ wM) ++ wX)) (hS : va_S (fun q : Nat => s.heap.size ≤ q) s.heap H locs) (hc9 : cells + 10 ≤ 601024) (hs9 : slots + 64 ≤ 7293034)
    (kk : ∀ (u v : va_W) (H1 : Heap) (locs1 : List Loc), lw_Inv G hX hM u v → va_P G.1 vwCl ((wO ++ v) ++ u) H1 → va_D (fun q : Nat => s.heap.size ≤ q) ((wO ++ v) ++ u) → va_S (fun q : Nat => s.heap.size ≤ q) s.heap H1 locs1 → W p l e room_1 s m #[Value.ref b] below meth c H1 locs1 (cells + 10) (slots + 64) Q (F0 m 2097 ls [])) : W p l e room_1 s m #[Value.ref b] below meth c H locs cells slots Q (F0 m 1474 ls []) := by
  obtain ⟨fx, ex⟩ := lw_ix hI
  obtain ⟨fm, em⟩ := lw_im hI
  obtain ⟨r, PX, PM, rm, MX, MM, ⟨r1, r2, r3, r4⟩, hI'⟩ := I_could (l := l) hI 
  have hx := C0.1
  have hb := C0.2.1
  have hts := C0.2.2.2.1
  refine lv_aload_n hx hb dL_law_1474 rfl (lv_at hl 1 rfl) ?_
  refine lw_callVi (wr := wO ++ wM) (ci := 8) (qc := (RX11, TX11, 12)) (rest := []) C0 (MX H.size) (cwV 0 hts gL_law_X11_could rfl rfl rfl e_X11_could ⟨Nat.le_of_ble_eq_true rfl, Nat.le_of_ble_eq_true rfl⟩) hP hD hS rfl rfl ex rfl hl.1 rfl (Nat.le_of_ble_eq_true rfl) dL_law_1475 ⟨(by show cells + 0 ≤ 601024; omega), (by show slots + 0 ≤ 7293034; omega)⟩ (fun u H1 locs1 hu hP hD hS => ?_)
  have hP := k_rotP hP
  have hD := k_rotD hD
  refine lv_aload_n hx hb dL_law_1478 rfl (lv_at hl 2 rfl) ?_
  refine lw_callVi (wr := wO ++ u) (ci := 10) (qc := (RX13, TX13, 38)) (rest := [.int r]) C0 (MM H1.size) (cwV 0 hts gL_law_X13_could rfl r1 r2 e_X13_could ⟨(by show rm.frames + 1 ≤ 15; omega), (by show 8 + (_ + 11) + rm.locals ≤ 568; omega)⟩) hP hD hS rfl rfl em rfl hl.1 rfl (Nat.le_of_ble_eq_true rfl) dL_law_1479 ⟨(by show cells + 0 + 0 ≤ 601024; omega), (by show slots + 0 + 0 ≤ 7293034; omega)⟩ (fun v H2 locs2 hv hP hD hS => ?_)
  refine lv_icmp_eq (tgt := 2097) hx hb dL_law_1482 (by decide) (fun _ => ?_) (fun h => absurd rfl h)
  refine W.widen (k := cells + 10) (n := slots + 64) (by omega) (by omega) ?_
  exact kk u v _ _ (hI' u v hu hv) (k_rotP hP) (k_rotD hD) hS
end LW
