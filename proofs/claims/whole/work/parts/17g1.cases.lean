/-! THE LAW: case by case -/
section LW
variable {p : Program} {l : Launch} {e : Env} {s : State} {m : MethodId} {below : List Frame} {meth : Method} {c : Code} {H : Heap} {locs : List Loc} {cells slots : Nat} {Q : State → Prop} {G : k_G} {b L : Nat} {xs : Nat → Int32} {hX hM q3 : Nat} {x4 : Int32} {ls : Array Slot} {wX wM wO : va_W}
set_option maxHeartbeats 4000000 in
set_option maxRecDepth 100000 in
theorem L_share (C0 : lw_K G p s m b meth c) (hXs : va_X b L xs s s.heap) (hbl : b < s.heap.size) (hin : ∀ k : Nat, k < 6 → vp_in (x4 + nI k) L) (hl : lv_has ls 7 (lw_l b hX hM q3 x4)) (hI : lw_Inv G hX hM wX wM) (hP : va_P G.1 vwCl ((wO ++ wM) ++ wX) H) (hD : va_D (fun q : Nat => s.heap.size ≤ q) ((wO ++ wM) ++ wX)) (hS : va_S (fun q : Nat => s.heap.size ≤ q) s.heap H locs) (hc9 : cells + 10 ≤ 601024) (hs9 : slots + 64 ≤ 7293034)
    (kk : ∀ (u v : va_W) (H1 : Heap) (locs1 : List Loc), lw_Inv G hX hM u v → va_P G.1 vwCl ((wO ++ v) ++ u) H1 → va_D (fun q : Nat => s.heap.size ≤ q) ((wO ++ v) ++ u) → va_S (fun q : Nat => s.heap.size ≤ q) s.heap H1 locs1 → W p l e room_1 s m #[Value.ref b] below meth c H1 locs1 (cells + 10) (slots + 64) Q (F0 m 2097 ls [])) : W p l e room_1 s m #[Value.ref b] below meth c H locs cells slots Q (F0 m 622 ls []) := by
  obtain ⟨fx, ex⟩ := lw_ix hI
  obtain ⟨fm, em⟩ := lw_im hI
  obtain ⟨r, PX, PM, rm, MX, MM, ⟨r1, r2, r3, r4⟩, hI'⟩ := I_share (l := l) hI (xs (x4 + nI 1).toNatClampNeg) (lw_bo (xs (x4 + nI 2).toNatClampNeg))
  have hx := C0.1
  have hb := C0.2.1
  have hts := C0.2.2.2.1
  refine lv_aload_n hx hb dL_law_622 rfl (lv_at hl 1 rfl) ?_
  refine lw_arg (k := nI 1) C0 hXs hbl hS hl dL_law_623 dL_law_624 dL_law_626 (by decide) dL_law_627 dL_law_628 (hin 1 (by decide)) ?_
  refine lw_arg (k := nI 2) C0 hXs hbl hS hl dL_law_629 dL_law_630 dL_law_632 (by decide) dL_law_633 dL_law_634 (hin 2 (by decide)) ?_
  refine lw_bool C0 dL_law_635 dL_law_638 dL_law_639 dL_law_642 ?_
  refine lw_callVl (wr := wO ++ wM) (ci := 8) (qc := (RX11, TX11, 12)) (rest := []) C0 (MX H.size) (cwV 2 hts gL_law_X11_share rfl rfl rfl e_X11_share ⟨Nat.le_of_ble_eq_true rfl, Nat.le_of_ble_eq_true rfl⟩) hP hD hS rfl rfl ex rfl hl.1 rfl (Nat.le_of_ble_eq_true rfl) dL_law_643 ⟨(by show cells + 0 ≤ 601024; omega), (by show slots + 0 ≤ 7293034; omega)⟩ (fun u H1 locs1 hu hP hD hS => ?_)
  have hP := k_rotP hP
  have hD := k_rotD hD
  refine lv_aload_n hx hb dL_law_646 rfl (lv_at hl 2 rfl) ?_
  refine lw_arg (k := nI 1) C0 hXs hbl hS hl dL_law_647 dL_law_648 dL_law_650 (by decide) dL_law_651 dL_law_652 (hin 1 (by decide)) ?_
  refine lw_arg (k := nI 2) C0 hXs hbl hS hl dL_law_653 dL_law_654 dL_law_656 (by decide) dL_law_657 dL_law_658 (hin 2 (by decide)) ?_
  refine lw_bool C0 dL_law_659 dL_law_662 dL_law_663 dL_law_666 ?_
  refine lw_callVl (wr := wO ++ u) (ci := 10) (qc := (RX13, TX13, 38)) (rest := [.long r]) C0 (MM H1.size) (cwV 2 hts gL_law_X13_share rfl r1 r2 e_X13_share ⟨(by show rm.frames + 1 ≤ 15; omega), (by show 8 + (_ + 11) + rm.locals ≤ 568; omega)⟩) hP hD hS rfl rfl em rfl hl.1 rfl (Nat.le_of_ble_eq_true rfl) dL_law_667 ⟨(by show cells + 0 + 0 ≤ 601024; omega), (by show slots + 0 + 0 ≤ 7293034; omega)⟩ (fun v H2 locs2 hv hP hD hS => ?_)
  refine W.lcmp hx hb dL_law_670 ?_
  refine lv_if_eq (tgt := 2097) hx hb dL_law_671 (by decide) (fun _ => ?_) (fun h => absurd (lw_cmp r) h)
  refine W.widen (k := cells + 10) (n := slots + 64) (by omega) (by omega) ?_
  exact kk u v _ _ (hI' u v hu hv) (k_rotP hP) (k_rotD hD) hS
set_option maxHeartbeats 4000000 in
set_option maxRecDepth 100000 in
theorem L_energy (C0 : lw_K G p s m b meth c) (hXs : va_X b L xs s s.heap) (hbl : b < s.heap.size) (hin : ∀ k : Nat, k < 6 → vp_in (x4 + nI k) L) (hl : lv_has ls 7 (lw_l b hX hM q3 x4)) (hI : lw_Inv G hX hM wX wM) (hP : va_P G.1 vwCl ((wO ++ wM) ++ wX) H) (hD : va_D (fun q : Nat => s.heap.size ≤ q) ((wO ++ wM) ++ wX)) (hS : va_S (fun q : Nat => s.heap.size ≤ q) s.heap H locs) (hc9 : cells + 10 ≤ 601024) (hs9 : slots + 64 ≤ 7293034)
    (kk : ∀ (u v : va_W) (H1 : Heap) (locs1 : List Loc), lw_Inv G hX hM u v → va_P G.1 vwCl ((wO ++ v) ++ u) H1 → va_D (fun q : Nat => s.heap.size ≤ q) ((wO ++ v) ++ u) → va_S (fun q : Nat => s.heap.size ≤ q) s.heap H1 locs1 → W p l e room_1 s m #[Value.ref b] below meth c H1 locs1 (cells + 10) (slots + 64) Q (F0 m 2097 ls [])) : W p l e room_1 s m #[Value.ref b] below meth c H locs cells slots Q (F0 m 676 ls []) := by
  obtain ⟨fx, ex⟩ := lw_ix hI
  obtain ⟨fm, em⟩ := lw_im hI
  obtain ⟨r, PX, PM, rm, MX, MM, ⟨r1, r2, r3, r4⟩, hI'⟩ := I_energy (l := l) hI (xs (x4 + nI 1).toNatClampNeg)
  have hx := C0.1
  have hb := C0.2.1
  have hts := C0.2.2.2.1
  refine lv_aload_n hx hb dL_law_676 rfl (lv_at hl 1 rfl) ?_
  refine lw_arg (k := nI 1) C0 hXs hbl hS hl dL_law_677 dL_law_678 dL_law_680 (by decide) dL_law_681 dL_law_682 (hin 1 (by decide)) ?_
  refine lw_callVi (wr := wO ++ wM) (ci := 8) (qc := (RX11, TX11, 12)) (rest := []) C0 (MX H.size) (cwV 1 hts gL_law_X11_energy rfl rfl rfl e_X11_energy ⟨Nat.le_of_ble_eq_true rfl, Nat.le_of_ble_eq_true rfl⟩) hP hD hS rfl rfl ex rfl hl.1 rfl (Nat.le_of_ble_eq_true rfl) dL_law_683 ⟨(by show cells + 0 ≤ 601024; omega), (by show slots + 0 ≤ 7293034; omega)⟩ (fun u H1 locs1 hu hP hD hS => ?_)
  have hP := k_rotP hP
  have hD := k_rotD hD
  refine lv_aload_n hx hb dL_law_686 rfl (lv_at hl 2 rfl) ?_
  refine lw_arg (k := nI 1) C0 hXs hbl hS hl dL_law_687 dL_law_688 dL_law_690 (by decide) dL_law_691 dL_law_692 (hin 1 (by decide)) ?_
  refine lw_callVi (wr := wO ++ u) (ci := 10) (qc := (RX13, TX13, 38)) (rest := [.int r]) C0 (MM H1.size) (cwV 1 hts gL_law_X13_energy rfl r1 r2 e_X13_energy ⟨(by show rm.frames + 1 ≤ 15; omega), (by show 8 + (_ + 11) + rm.locals ≤ 568; omega)⟩) hP hD hS rfl rfl em rfl hl.1 rfl (Nat.le_of_ble_eq_true rfl) dL_law_693 ⟨(by show cells + 0 + 0 ≤ 601024; omega), (by show slots + 0 + 0 ≤ 7293034; omega)⟩ (fun v H2 locs2 hv hP hD hS => ?_)
  refine lv_icmp_eq (tgt := 2097) hx hb dL_law_696 (by decide) (fun _ => ?_) (fun h => absurd rfl h)
  refine W.widen (k := cells + 10) (n := slots + 64) (by omega) (by omega) ?_
  exact kk u v _ _ (hI' u v hu hv) (k_rotP hP) (k_rotD hD) hS
set_option maxHeartbeats 4000000 in
set_option maxRecDepth 100000 in
theorem L_calmest (C0 : lw_K G p s m b meth c) (hXs : va_X b L xs s s.heap) (hbl : b < s.heap.size) (hin : ∀ k : Nat, k < 6 → vp_in (x4 + nI k) L) (hl : lv_has ls 7 (lw_l b hX hM q3 x4)) (hI : lw_Inv G hX hM wX wM) (hP : va_P G.1 vwCl ((wO ++ wM) ++ wX) H) (hD : va_D (fun q : Nat => s.heap.size ≤ q) ((wO ++ wM) ++ wX)) (hS : va_S (fun q : Nat => s.heap.size ≤ q) s.heap H locs) (hc9 : cells + 10 ≤ 601024) (hs9 : slots + 64 ≤ 7293034)
    (kk : ∀ (u v : va_W) (H1 : Heap) (locs1 : List Loc), lw_Inv G hX hM u v → va_P G.1 vwCl ((wO ++ v) ++ u) H1 → va_D (fun q : Nat => s.heap.size ≤ q) ((wO ++ v) ++ u) → va_S (fun q : Nat => s.heap.size ≤ q) s.heap H1 locs1 → W p l e room_1 s m #[Value.ref b] below meth c H1 locs1 (cells + 10) (slots + 64) Q (F0 m 2097 ls [])) : W p l e room_1 s m #[Value.ref b] below meth c H locs cells slots Q (F0 m 701 ls []) := by
  obtain ⟨fx, ex⟩ := lw_ix hI
  obtain ⟨fm, em⟩ := lw_im hI
  obtain ⟨r, PX, PM, rm, MX, MM, ⟨r1, r2, r3, r4⟩, hI'⟩ := I_calmest (l := l) hI 
  have hx := C0.1
  have hb := C0.2.1
  have hts := C0.2.2.2.1
  refine lv_aload_n hx hb dL_law_701 rfl (lv_at hl 1 rfl) ?_
  refine lw_callVi (wr := wO ++ wM) (ci := 8) (qc := (RX11, TX11, 12)) (rest := []) C0 (MX H.size) (cwV 0 hts gL_law_X11_calmest rfl rfl rfl e_X11_calmest ⟨Nat.le_of_ble_eq_true rfl, Nat.le_of_ble_eq_true rfl⟩) hP hD hS rfl rfl ex rfl hl.1 rfl (Nat.le_of_ble_eq_true rfl) dL_law_702 ⟨(by show cells + 0 ≤ 601024; omega), (by show slots + 0 ≤ 7293034; omega)⟩ (fun u H1 locs1 hu hP hD hS => ?_)
  have hP := k_rotP hP
  have hD := k_rotD hD
  refine lv_aload_n hx hb dL_law_705 rfl (lv_at hl 2 rfl) ?_
  refine lw_callVi (wr := wO ++ u) (ci := 10) (qc := (RX13, TX13, 38)) (rest := [.int r]) C0 (MM H1.size) (cwV 0 hts gL_law_X13_calmest rfl r1 r2 e_X13_calmest ⟨(by show rm.frames + 1 ≤ 15; omega), (by show 8 + (_ + 11) + rm.locals ≤ 568; omega)⟩) hP hD hS rfl rfl em rfl hl.1 rfl (Nat.le_of_ble_eq_true rfl) dL_law_706 ⟨(by show cells + 0 + 0 ≤ 601024; omega), (by show slots + 0 + 0 ≤ 7293034; omega)⟩ (fun v H2 locs2 hv hP hD hS => ?_)
  refine lv_icmp_eq (tgt := 2097) hx hb dL_law_709 (by decide) (fun _ => ?_) (fun h => absurd rfl h)
  refine W.widen (k := cells + 10) (n := slots + 64) (by omega) (by omega) ?_
  exact kk u v _ _ (hI' u v hu hv) (k_rotP hP) (k_rotD hD) hS
set_option maxHeartbeats 4000000 in
set_option maxRecDepth 100000 in
theorem L_out (C0 : lw_K G p s m b meth c) (hXs : va_X b L xs s s.heap) (hbl : b < s.heap.size) (hin : ∀ k : Nat, k < 6 → vp_in (x4 + nI k) L) (hl : lv_has ls 7 (lw_l b hX hM q3 x4)) (hI : lw_Inv G hX hM wX wM) (hP : va_P G.1 vwCl ((wO ++ wM) ++ wX) H) (hD : va_D (fun q : Nat => s.heap.size ≤ q) ((wO ++ wM) ++ wX)) (hS : va_S (fun q : Nat => s.heap.size ≤ q) s.heap H locs) (hc9 : cells + 10 ≤ 601024) (hs9 : slots + 64 ≤ 7293034)
    (kk : ∀ (u v : va_W) (H1 : Heap) (locs1 : List Loc), lw_Inv G hX hM u v → va_P G.1 vwCl ((wO ++ v) ++ u) H1 → va_D (fun q : Nat => s.heap.size ≤ q) ((wO ++ v) ++ u) → va_S (fun q : Nat => s.heap.size ≤ q) s.heap H1 locs1 → W p l e room_1 s m #[Value.ref b] below meth c H1 locs1 (cells + 10) (slots + 64) Q (F0 m 2097 ls [])) : W p l e room_1 s m #[Value.ref b] below meth c H locs cells slots Q (F0 m 714 ls []) := by
  obtain ⟨fx, ex⟩ := lw_ix hI
  obtain ⟨fm, em⟩ := lw_im hI
  obtain ⟨r, PX, PM, rm, MX, MM, ⟨r1, r2, r3, r4⟩, hI'⟩ := I_out (l := l) hI (xs (x4 + nI 1).toNatClampNeg) (xs (x4 + nI 2).toNatClampNeg)
  have hx := C0.1
  have hb := C0.2.1
  have hts := C0.2.2.2.1
  refine lv_aload_n hx hb dL_law_714 rfl (lv_at hl 1 rfl) ?_
  refine lw_arg (k := nI 1) C0 hXs hbl hS hl dL_law_715 dL_law_716 dL_law_718 (by decide) dL_law_719 dL_law_720 (hin 1 (by decide)) ?_
  refine lw_arg (k := nI 2) C0 hXs hbl hS hl dL_law_721 dL_law_722 dL_law_724 (by decide) dL_law_725 dL_law_726 (hin 2 (by decide)) ?_
  refine lw_callVi (wr := wO ++ wM) (ci := 8) (qc := (RX11, TX11, 12)) (rest := []) C0 (MX H.size) (cwV 2 hts gL_law_X11_out rfl rfl rfl e_X11_out ⟨Nat.le_of_ble_eq_true rfl, Nat.le_of_ble_eq_true rfl⟩) hP hD hS rfl rfl ex rfl hl.1 rfl (Nat.le_of_ble_eq_true rfl) dL_law_727 ⟨(by show cells + 0 ≤ 601024; omega), (by show slots + 0 ≤ 7293034; omega)⟩ (fun u H1 locs1 hu hP hD hS => ?_)
  have hP := k_rotP hP
  have hD := k_rotD hD
  refine lv_aload_n hx hb dL_law_730 rfl (lv_at hl 2 rfl) ?_
  refine lw_arg (k := nI 1) C0 hXs hbl hS hl dL_law_731 dL_law_732 dL_law_734 (by decide) dL_law_735 dL_law_736 (hin 1 (by decide)) ?_
  refine lw_arg (k := nI 2) C0 hXs hbl hS hl dL_law_737 dL_law_738 dL_law_740 (by decide) dL_law_741 dL_law_742 (hin 2 (by decide)) ?_
  refine lw_callVi (wr := wO ++ u) (ci := 10) (qc := (RX13, TX13, 38)) (rest := [.int r]) C0 (MM H1.size) (cwV 2 hts gL_law_X13_out rfl r1 r2 e_X13_out ⟨(by show rm.frames + 1 ≤ 15; omega), (by show 8 + (_ + 11) + rm.locals ≤ 568; omega)⟩) hP hD hS rfl rfl em rfl hl.1 rfl (Nat.le_of_ble_eq_true rfl) dL_law_743 ⟨(by show cells + 0 + 0 ≤ 601024; omega), (by show slots + 0 + 0 ≤ 7293034; omega)⟩ (fun v H2 locs2 hv hP hD hS => ?_)
  refine lv_icmp_eq (tgt := 2097) hx hb dL_law_746 (by decide) (fun _ => ?_) (fun h => absurd rfl h)
  refine W.widen (k := cells + 10) (n := slots + 64) (by omega) (by omega) ?_
  exact kk u v _ _ (hI' u v hu hv) (k_rotP hP) (k_rotD hD) hS
set_option maxHeartbeats 4000000 in
set_option maxRecDepth 100000 in
theorem L_outs (C0 : lw_K G p s m b meth c) (hXs : va_X b L xs s s.heap) (hbl : b < s.heap.size) (hin : ∀ k : Nat, k < 6 → vp_in (x4 + nI k) L) (hl : lv_has ls 7 (lw_l b hX hM q3 x4)) (hI : lw_Inv G hX hM wX wM) (hP : va_P G.1 vwCl ((wO ++ wM) ++ wX) H) (hD : va_D (fun q : Nat => s.heap.size ≤ q) ((wO ++ wM) ++ wX)) (hS : va_S (fun q : Nat => s.heap.size ≤ q) s.heap H locs) (hc9 : cells + 10 ≤ 601024) (hs9 : slots + 64 ≤ 7293034)
    (kk : ∀ (u v : va_W) (H1 : Heap) (locs1 : List Loc), lw_Inv G hX hM u v → va_P G.1 vwCl ((wO ++ v) ++ u) H1 → va_D (fun q : Nat => s.heap.size ≤ q) ((wO ++ v) ++ u) → va_S (fun q : Nat => s.heap.size ≤ q) s.heap H1 locs1 → W p l e room_1 s m #[Value.ref b] below meth c H1 locs1 (cells + 10) (slots + 64) Q (F0 m 2097 ls [])) : W p l e room_1 s m #[Value.ref b] below meth c H locs cells slots Q (F0 m 751 ls []) := by
  obtain ⟨fx, ex⟩ := lw_ix hI
  obtain ⟨fm, em⟩ := lw_im hI
  obtain ⟨r, PX, PM, rm, MX, MM, ⟨r1, r2, r3, r4⟩, hI'⟩ := I_outs (l := l) hI (xs (x4 + nI 1).toNatClampNeg)
  have hx := C0.1
  have hb := C0.2.1
  have hts := C0.2.2.2.1
  refine lv_aload_n hx hb dL_law_751 rfl (lv_at hl 1 rfl) ?_
  refine lw_arg (k := nI 1) C0 hXs hbl hS hl dL_law_752 dL_law_753 dL_law_755 (by decide) dL_law_756 dL_law_757 (hin 1 (by decide)) ?_
  refine lw_callVi (wr := wO ++ wM) (ci := 8) (qc := (RX11, TX11, 12)) (rest := []) C0 (MX H.size) (cwV 1 hts gL_law_X11_outs rfl rfl rfl e_X11_outs ⟨Nat.le_of_ble_eq_true rfl, Nat.le_of_ble_eq_true rfl⟩) hP hD hS rfl rfl ex rfl hl.1 rfl (Nat.le_of_ble_eq_true rfl) dL_law_758 ⟨(by show cells + 0 ≤ 601024; omega), (by show slots + 0 ≤ 7293034; omega)⟩ (fun u H1 locs1 hu hP hD hS => ?_)
  have hP := k_rotP hP
  have hD := k_rotD hD
  refine lv_aload_n hx hb dL_law_761 rfl (lv_at hl 2 rfl) ?_
  refine lw_arg (k := nI 1) C0 hXs hbl hS hl dL_law_762 dL_law_763 dL_law_765 (by decide) dL_law_766 dL_law_767 (hin 1 (by decide)) ?_
  refine lw_callVi (wr := wO ++ u) (ci := 10) (qc := (RX13, TX13, 38)) (rest := [.int r]) C0 (MM H1.size) (cwV 1 hts gL_law_X13_outs rfl r1 r2 e_X13_outs ⟨(by show rm.frames + 1 ≤ 15; omega), (by show 8 + (_ + 11) + rm.locals ≤ 568; omega)⟩) hP hD hS rfl rfl em rfl hl.1 rfl (Nat.le_of_ble_eq_true rfl) dL_law_768 ⟨(by show cells + 0 + 0 ≤ 601024; omega), (by show slots + 0 + 0 ≤ 7293034; omega)⟩ (fun v H2 locs2 hv hP hD hS => ?_)
  refine lv_icmp_eq (tgt := 2097) hx hb dL_law_771 (by decide) (fun _ => ?_) (fun h => absurd rfl h)
  refine W.widen (k := cells + 10) (n := slots + 64) (by omega) (by omega) ?_
  exact kk u v _ _ (hI' u v hu hv) (k_rotP hP) (k_rotD hD) hS
set_option maxHeartbeats 4000000 in
set_option maxRecDepth 100000 in
theorem L_firstLine (C0 : lw_K G p s m b meth c) (hXs : va_X b L xs s s.heap) (hbl : b < s.heap.size) (hin : ∀ k : Nat, k < 6 → vp_in (x4 + nI k) L) (hl : lv_has ls 7 (lw_l b hX hM q3 x4)) (hI : lw_Inv G hX hM wX wM) (hP : va_P G.1 vwCl ((wO ++ wM) ++ wX) H) (hD : va_D (fun q : Nat => s.heap.size ≤ q) ((wO ++ wM) ++ wX)) (hS : va_S (fun q : Nat => s.heap.size ≤ q) s.heap H locs) (hc9 : cells + 10 ≤ 601024) (hs9 : slots + 64 ≤ 7293034)
    (kk : ∀ (u v : va_W) (H1 : Heap) (locs1 : List Loc), lw_Inv G hX hM u v → va_P G.1 vwCl ((wO ++ v) ++ u) H1 → va_D (fun q : Nat => s.heap.size ≤ q) ((wO ++ v) ++ u) → va_S (fun q : Nat => s.heap.size ≤ q) s.heap H1 locs1 → W p l e room_1 s m #[Value.ref b] below meth c H1 locs1 (cells + 10) (slots + 64) Q (F0 m 2097 ls [])) : W p l e room_1 s m #[Value.ref b] below meth c H locs cells slots Q (F0 m 776 ls []) := by
  obtain ⟨fx, ex⟩ := lw_ix hI
  obtain ⟨fm, em⟩ := lw_im hI
  obtain ⟨r, PX, PM, rm, MX, MM, ⟨r1, r2, r3, r4⟩, hI'⟩ := I_firstLine (l := l) hI (xs (x4 + nI 1).toNatClampNeg)
  have hx := C0.1
  have hb := C0.2.1
  have hts := C0.2.2.2.1
  refine lv_aload_n hx hb dL_law_776 rfl (lv_at hl 1 rfl) ?_
  refine lw_arg (k := nI 1) C0 hXs hbl hS hl dL_law_777 dL_law_778 dL_law_780 (by decide) dL_law_781 dL_law_782 (hin 1 (by decide)) ?_
  refine lw_callVi (wr := wO ++ wM) (ci := 8) (qc := (RX11, TX11, 12)) (rest := []) C0 (MX H.size) (cwV 1 hts gL_law_X11_firstLine rfl rfl rfl e_X11_firstLine ⟨Nat.le_of_ble_eq_true rfl, Nat.le_of_ble_eq_true rfl⟩) hP hD hS rfl rfl ex rfl hl.1 rfl (Nat.le_of_ble_eq_true rfl) dL_law_783 ⟨(by show cells + 0 ≤ 601024; omega), (by show slots + 0 ≤ 7293034; omega)⟩ (fun u H1 locs1 hu hP hD hS => ?_)
  have hP := k_rotP hP
  have hD := k_rotD hD
  refine lv_aload_n hx hb dL_law_786 rfl (lv_at hl 2 rfl) ?_
  refine lw_arg (k := nI 1) C0 hXs hbl hS hl dL_law_787 dL_law_788 dL_law_790 (by decide) dL_law_791 dL_law_792 (hin 1 (by decide)) ?_
  refine lw_callVi (wr := wO ++ u) (ci := 10) (qc := (RX13, TX13, 38)) (rest := [.int r]) C0 (MM H1.size) (cwV 1 hts gL_law_X13_firstLine rfl r1 r2 e_X13_firstLine ⟨(by show rm.frames + 1 ≤ 15; omega), (by show 8 + (_ + 11) + rm.locals ≤ 568; omega)⟩) hP hD hS rfl rfl em rfl hl.1 rfl (Nat.le_of_ble_eq_true rfl) dL_law_793 ⟨(by show cells + 0 + 0 ≤ 601024; omega), (by show slots + 0 + 0 ≤ 7293034; omega)⟩ (fun v H2 locs2 hv hP hD hS => ?_)
  refine lv_icmp_eq (tgt := 2097) hx hb dL_law_796 (by decide) (fun _ => ?_) (fun h => absurd rfl h)
  refine W.widen (k := cells + 10) (n := slots + 64) (by omega) (by omega) ?_
  exact kk u v _ _ (hI' u v hu hv) (k_rotP hP) (k_rotD hD) hS
set_option maxHeartbeats 4000000 in
set_option maxRecDepth 100000 in
theorem L_sameLines (C0 : lw_K G p s m b meth c) (hXs : va_X b L xs s s.heap) (hbl : b < s.heap.size) (hin : ∀ k : Nat, k < 6 → vp_in (x4 + nI k) L) (hl : lv_has ls 7 (lw_l b hX hM q3 x4)) (hI : lw_Inv G hX hM wX wM) (hP : va_P G.1 vwCl ((wO ++ wM) ++ wX) H) (hD : va_D (fun q : Nat => s.heap.size ≤ q) ((wO ++ wM) ++ wX)) (hS : va_S (fun q : Nat => s.heap.size ≤ q) s.heap H locs) (hc9 : cells + 10 ≤ 601024) (hs9 : slots + 64 ≤ 7293034)
    (kk : ∀ (u v : va_W) (H1 : Heap) (locs1 : List Loc), lw_Inv G hX hM u v → va_P G.1 vwCl ((wO ++ v) ++ u) H1 → va_D (fun q : Nat => s.heap.size ≤ q) ((wO ++ v) ++ u) → va_S (fun q : Nat => s.heap.size ≤ q) s.heap H1 locs1 → W p l e room_1 s m #[Value.ref b] below meth c H1 locs1 (cells + 10) (slots + 64) Q (F0 m 2097 ls [])) : W p l e room_1 s m #[Value.ref b] below meth c H locs cells slots Q (F0 m 801 ls []) := by
  obtain ⟨fx, ex⟩ := lw_ix hI
  obtain ⟨fm, em⟩ := lw_im hI
  obtain ⟨r, PX, PM, rm, MX, MM, ⟨r1, r2, r3, r4⟩, hI'⟩ := I_sameLines (l := l) hI (xs (x4 + nI 1).toNatClampNeg) (xs (x4 + nI 2).toNatClampNeg)
  have hx := C0.1
  have hb := C0.2.1
  have hts := C0.2.2.2.1
  refine lv_aload_n hx hb dL_law_801 rfl (lv_at hl 1 rfl) ?_
  refine lw_arg (k := nI 1) C0 hXs hbl hS hl dL_law_802 dL_law_803 dL_law_805 (by decide) dL_law_806 dL_law_807 (hin 1 (by decide)) ?_
  refine lw_arg (k := nI 2) C0 hXs hbl hS hl dL_law_808 dL_law_809 dL_law_811 (by decide) dL_law_812 dL_law_813 (hin 2 (by decide)) ?_
  refine lw_callVi (wr := wO ++ wM) (ci := 8) (qc := (RX11, TX11, 12)) (rest := []) C0 (MX H.size) (cwV 2 hts gL_law_X11_sameLines rfl rfl rfl e_X11_sameLines ⟨Nat.le_of_ble_eq_true rfl, Nat.le_of_ble_eq_true rfl⟩) hP hD hS rfl rfl ex rfl hl.1 rfl (Nat.le_of_ble_eq_true rfl) dL_law_814 ⟨(by show cells + 0 ≤ 601024; omega), (by show slots + 0 ≤ 7293034; omega)⟩ (fun u H1 locs1 hu hP hD hS => ?_)
  have hP := k_rotP hP
  have hD := k_rotD hD
  refine lv_aload_n hx hb dL_law_817 rfl (lv_at hl 2 rfl) ?_
  refine lw_arg (k := nI 1) C0 hXs hbl hS hl dL_law_818 dL_law_819 dL_law_821 (by decide) dL_law_822 dL_law_823 (hin 1 (by decide)) ?_
  refine lw_arg (k := nI 2) C0 hXs hbl hS hl dL_law_824 dL_law_825 dL_law_827 (by decide) dL_law_828 dL_law_829 (hin 2 (by decide)) ?_
  refine lw_callVi (wr := wO ++ u) (ci := 10) (qc := (RX13, TX13, 38)) (rest := [.int r]) C0 (MM H1.size) (cwV 2 hts gL_law_X13_sameLines rfl r1 r2 e_X13_sameLines ⟨(by show rm.frames + 1 ≤ 15; omega), (by show 8 + (_ + 11) + rm.locals ≤ 568; omega)⟩) hP hD hS rfl rfl em rfl hl.1 rfl (Nat.le_of_ble_eq_true rfl) dL_law_830 ⟨(by show cells + 0 + 0 ≤ 601024; omega), (by show slots + 0 + 0 ≤ 7293034; omega)⟩ (fun v H2 locs2 hv hP hD hS => ?_)
  refine lv_icmp_eq (tgt := 2097) hx hb dL_law_833 (by decide) (fun _ => ?_) (fun h => absurd rfl h)
  refine W.widen (k := cells + 10) (n := slots + 64) (by omega) (by omega) ?_
  exact kk u v _ _ (hI' u v hu hv) (k_rotP hP) (k_rotD hD) hS
set_option maxHeartbeats 4000000 in
set_option maxRecDepth 100000 in
theorem L_ground (C0 : lw_K G p s m b meth c) (hXs : va_X b L xs s s.heap) (hbl : b < s.heap.size) (hin : ∀ k : Nat, k < 6 → vp_in (x4 + nI k) L) (hl : lv_has ls 7 (lw_l b hX hM q3 x4)) (hI : lw_Inv G hX hM wX wM) (hP : va_P G.1 vwCl ((wO ++ wM) ++ wX) H) (hD : va_D (fun q : Nat => s.heap.size ≤ q) ((wO ++ wM) ++ wX)) (hS : va_S (fun q : Nat => s.heap.size ≤ q) s.heap H locs) (hc9 : cells + 10 ≤ 601024) (hs9 : slots + 64 ≤ 7293034)
    (kk : ∀ (u v : va_W) (H1 : Heap) (locs1 : List Loc), lw_Inv G hX hM u v → va_P G.1 vwCl ((wO ++ v) ++ u) H1 → va_D (fun q : Nat => s.heap.size ≤ q) ((wO ++ v) ++ u) → va_S (fun q : Nat => s.heap.size ≤ q) s.heap H1 locs1 → W p l e room_1 s m #[Value.ref b] below meth c H1 locs1 (cells + 10) (slots + 64) Q (F0 m 2097 ls [])) : W p l e room_1 s m #[Value.ref b] below meth c H locs cells slots Q (F0 m 838 ls []) := by
  obtain ⟨fx, ex⟩ := lw_ix hI
  obtain ⟨fm, em⟩ := lw_im hI
  obtain ⟨r, PX, PM, rm, MX, MM, ⟨r1, r2, r3, r4⟩, hI'⟩ := I_ground (l := l) hI (xs (x4 + nI 1).toNatClampNeg)
  have hx := C0.1
  have hb := C0.2.1
  have hts := C0.2.2.2.1
  refine lv_aload_n hx hb dL_law_838 rfl (lv_at hl 1 rfl) ?_
  refine lw_arg (k := nI 1) C0 hXs hbl hS hl dL_law_839 dL_law_840 dL_law_842 (by decide) dL_law_843 dL_law_844 (hin 1 (by decide)) ?_
  refine lw_callVi (wr := wO ++ wM) (ci := 8) (qc := (RX11, TX11, 12)) (rest := []) C0 (MX H.size) (cwV 1 hts gL_law_X11_ground rfl rfl rfl e_X11_ground ⟨Nat.le_of_ble_eq_true rfl, Nat.le_of_ble_eq_true rfl⟩) hP hD hS rfl rfl ex rfl hl.1 rfl (Nat.le_of_ble_eq_true rfl) dL_law_845 ⟨(by show cells + 0 ≤ 601024; omega), (by show slots + 0 ≤ 7293034; omega)⟩ (fun u H1 locs1 hu hP hD hS => ?_)
  have hP := k_rotP hP
  have hD := k_rotD hD
  refine lv_aload_n hx hb dL_law_848 rfl (lv_at hl 2 rfl) ?_
  refine lw_arg (k := nI 1) C0 hXs hbl hS hl dL_law_849 dL_law_850 dL_law_852 (by decide) dL_law_853 dL_law_854 (hin 1 (by decide)) ?_
  refine lw_callVi (wr := wO ++ u) (ci := 10) (qc := (RX13, TX13, 38)) (rest := [.int r]) C0 (MM H1.size) (cwV 1 hts gL_law_X13_ground rfl r1 r2 e_X13_ground ⟨(by show rm.frames + 1 ≤ 15; omega), (by show 8 + (_ + 11) + rm.locals ≤ 568; omega)⟩) hP hD hS rfl rfl em rfl hl.1 rfl (Nat.le_of_ble_eq_true rfl) dL_law_855 ⟨(by show cells + 0 + 0 ≤ 601024; omega), (by show slots + 0 + 0 ≤ 7293034; omega)⟩ (fun v H2 locs2 hv hP hD hS => ?_)
  refine lv_icmp_eq (tgt := 2097) hx hb dL_law_858 (by decide) (fun _ => ?_) (fun h => absurd rfl h)
  refine W.widen (k := cells + 10) (n := slots + 64) (by omega) (by omega) ?_
  exact kk u v _ _ (hI' u v hu hv) (k_rotP hP) (k_rotD hD) hS
set_option maxHeartbeats 4000000 in
set_option maxRecDepth 100000 in
theorem L_groundRow (C0 : lw_K G p s m b meth c) (hXs : va_X b L xs s s.heap) (hbl : b < s.heap.size) (hin : ∀ k : Nat, k < 6 → vp_in (x4 + nI k) L) (hl : lv_has ls 7 (lw_l b hX hM q3 x4)) (hI : lw_Inv G hX hM wX wM) (hP : va_P G.1 vwCl ((wO ++ wM) ++ wX) H) (hD : va_D (fun q : Nat => s.heap.size ≤ q) ((wO ++ wM) ++ wX)) (hS : va_S (fun q : Nat => s.heap.size ≤ q) s.heap H locs) (hc9 : cells + 10 ≤ 601024) (hs9 : slots + 64 ≤ 7293034)
    (kk : ∀ (u v : va_W) (H1 : Heap) (locs1 : List Loc), lw_Inv G hX hM u v → va_P G.1 vwCl ((wO ++ v) ++ u) H1 → va_D (fun q : Nat => s.heap.size ≤ q) ((wO ++ v) ++ u) → va_S (fun q : Nat => s.heap.size ≤ q) s.heap H1 locs1 → W p l e room_1 s m #[Value.ref b] below meth c H1 locs1 (cells + 10) (slots + 64) Q (F0 m 2097 ls [])) : W p l e room_1 s m #[Value.ref b] below meth c H locs cells slots Q (F0 m 863 ls []) := by
  obtain ⟨fx, ex⟩ := lw_ix hI
  obtain ⟨fm, em⟩ := lw_im hI
  obtain ⟨r, PX, PM, rm, MX, MM, ⟨r1, r2, r3, r4⟩, hI'⟩ := I_groundRow (l := l) hI (xs (x4 + nI 1).toNatClampNeg)
  have hx := C0.1
  have hb := C0.2.1
  have hts := C0.2.2.2.1
  refine lv_aload_n hx hb dL_law_863 rfl (lv_at hl 1 rfl) ?_
  refine lw_arg (k := nI 1) C0 hXs hbl hS hl dL_law_864 dL_law_865 dL_law_867 (by decide) dL_law_868 dL_law_869 (hin 1 (by decide)) ?_
  refine lw_callVi (wr := wO ++ wM) (ci := 8) (qc := (RX11, TX11, 12)) (rest := []) C0 (MX H.size) (cwV 1 hts gL_law_X11_groundRow rfl rfl rfl e_X11_groundRow ⟨Nat.le_of_ble_eq_true rfl, Nat.le_of_ble_eq_true rfl⟩) hP hD hS rfl rfl ex rfl hl.1 rfl (Nat.le_of_ble_eq_true rfl) dL_law_870 ⟨(by show cells + 0 ≤ 601024; omega), (by show slots + 0 ≤ 7293034; omega)⟩ (fun u H1 locs1 hu hP hD hS => ?_)
  have hP := k_rotP hP
  have hD := k_rotD hD
  refine lv_aload_n hx hb dL_law_873 rfl (lv_at hl 2 rfl) ?_
  refine lw_arg (k := nI 1) C0 hXs hbl hS hl dL_law_874 dL_law_875 dL_law_877 (by decide) dL_law_878 dL_law_879 (hin 1 (by decide)) ?_
  refine lw_callVi (wr := wO ++ u) (ci := 10) (qc := (RX13, TX13, 38)) (rest := [.int r]) C0 (MM H1.size) (cwV 1 hts gL_law_X13_groundRow rfl r1 r2 e_X13_groundRow ⟨(by show rm.frames + 1 ≤ 15; omega), (by show 8 + (_ + 11) + rm.locals ≤ 568; omega)⟩) hP hD hS rfl rfl em rfl hl.1 rfl (Nat.le_of_ble_eq_true rfl) dL_law_880 ⟨(by show cells + 0 + 0 ≤ 601024; omega), (by show slots + 0 + 0 ≤ 7293034; omega)⟩ (fun v H2 locs2 hv hP hD hS => ?_)
  refine lv_icmp_eq (tgt := 2097) hx hb dL_law_883 (by decide) (fun _ => ?_) (fun h => absurd rfl h)
  refine W.widen (k := cells + 10) (n := slots + 64) (by omega) (by omega) ?_
  exact kk u v _ _ (hI' u v hu hv) (k_rotP hP) (k_rotD hD) hS
end LW
