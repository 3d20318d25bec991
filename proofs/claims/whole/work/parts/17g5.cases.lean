/-! THE LAW: case by case -/
section LW
variable {p : Program} {l : Launch} {e : Env} {s : State} {m : MethodId} {below : List Frame} {meth : Method} {c : Code} {H : Heap} {locs : List Loc} {cells slots : Nat} {Q : State → Prop} {G : k_G} {b L : Nat} {xs : Nat → Int32} {hX hM q3 : Nat} {x4 : Int32} {ls : Array Slot} {wX wM wO : va_W}
set_option maxHeartbeats 4000000 in
set_option maxRecDepth 100000 in
theorem L_slip (C0 : lw_K G p s m b meth c) (hXs : va_X b L xs s s.heap) (hbl : b < s.heap.size) (hin : ∀ k : Nat, k < 6 → vp_in (x4 + nI k) L) (hl : lv_has ls 7 (lw_l b hX hM q3 x4)) (hI : lw_Inv G hX hM wX wM) (hP : va_P G.1 vwCl ((wO ++ wM) ++ wX) H) (hD : va_D (fun q : Nat => s.heap.size ≤ q) ((wO ++ wM) ++ wX)) (hS : va_S (fun q : Nat => s.heap.size ≤ q) s.heap H locs) (hc9 : cells + 10 ≤ 601024) (hs9 : slots + 64 ≤ 7293034)
    (kk : ∀ (u v : va_W) (H1 : Heap) (locs1 : List Loc), lw_Inv G hX hM u v → va_P G.1 vwCl ((wO ++ v) ++ u) H1 → va_D (fun q : Nat => s.heap.size ≤ q) ((wO ++ v) ++ u) → va_S (fun q : Nat => s.heap.size ≤ q) s.heap H1 locs1 → W p l e room_1 s m #[Value.ref b] below meth c H1 locs1 (cells + 10) (slots + 64) Q (F0 m 2097 ls [])) : W p l e room_1 s m #[Value.ref b] below meth c H locs cells slots Q (F0 m 1787 ls []) := by
  obtain ⟨fx, ex⟩ := lw_ix hI
  obtain ⟨fm, em⟩ := lw_im hI
  obtain ⟨r, PX, PM, rm, MX, MM, ⟨r1, r2, r3, r4⟩, hI'⟩ := I_slip (l := l) hI (xs (x4 + nI 1).toNatClampNeg) (xs (x4 + nI 2).toNatClampNeg)
  have hx := C0.1
  have hb := C0.2.1
  have hts := C0.2.2.2.1
  refine lv_aload_n hx hb dL_law_1787 rfl (lv_at hl 1 rfl) ?_
  refine lw_arg (k := nI 1) C0 hXs hbl hS hl dL_law_1788 dL_law_1789 dL_law_1791 (by decide) dL_law_1792 dL_law_1793 (hin 1 (by decide)) ?_
  refine lw_arg (k := nI 2) C0 hXs hbl hS hl dL_law_1794 dL_law_1795 dL_law_1797 (by decide) dL_law_1798 dL_law_1799 (hin 2 (by decide)) ?_
  refine lw_callVi (wr := wO ++ wM) (ci := 8) (qc := (RX11, TX11, 12)) (rest := []) C0 (MX H.size) (cwV 2 hts gL_law_X11_slip rfl rfl rfl e_X11_slip ⟨Nat.le_of_ble_eq_true rfl, Nat.le_of_ble_eq_true rfl⟩) hP hD hS rfl rfl ex rfl hl.1 rfl (Nat.le_of_ble_eq_true rfl) dL_law_1800 ⟨(by show cells + 0 ≤ 601024; omega), (by show slots + 0 ≤ 7293034; omega)⟩ (fun u H1 locs1 hu hP hD hS => ?_)
  have hP := k_rotP hP
  have hD := k_rotD hD
  refine lv_aload_n hx hb dL_law_1803 rfl (lv_at hl 2 rfl) ?_
  refine lw_arg (k := nI 1) C0 hXs hbl hS hl dL_law_1804 dL_law_1805 dL_law_1807 (by decide) dL_law_1808 dL_law_1809 (hin 1 (by decide)) ?_
  refine lw_arg (k := nI 2) C0 hXs hbl hS hl dL_law_1810 dL_law_1811 dL_law_1813 (by decide) dL_law_1814 dL_law_1815 (hin 2 (by decide)) ?_
  refine lw_callVi (wr := wO ++ u) (ci := 10) (qc := (RX13, TX13, 38)) (rest := [.int r]) C0 (MM H1.size) (cwV 2 hts gL_law_X13_slip rfl r1 r2 e_X13_slip ⟨(by show rm.frames + 1 ≤ 15; omega), (by show 8 + (_ + 11) + rm.locals ≤ 568; omega)⟩) hP hD hS rfl rfl em rfl hl.1 rfl (Nat.le_of_ble_eq_true rfl) dL_law_1816 ⟨(by show cells + 0 + 0 ≤ 601024; omega), (by show slots + 0 + 0 ≤ 7293034; omega)⟩ (fun v H2 locs2 hv hP hD hS => ?_)
  refine lv_icmp_eq (tgt := 2097) hx hb dL_law_1819 (by decide) (fun _ => ?_) (fun h => absurd rfl h)
  refine W.widen (k := cells + 10) (n := slots + 64) (by omega) (by omega) ?_
  exact kk u v _ _ (hI' u v hu hv) (k_rotP hP) (k_rotD hD) hS
set_option maxHeartbeats 4000000 in
set_option maxRecDepth 100000 in
theorem L_turn (C0 : lw_K G p s m b meth c) (hXs : va_X b L xs s s.heap) (hbl : b < s.heap.size) (hin : ∀ k : Nat, k < 6 → vp_in (x4 + nI k) L) (hl : lv_has ls 7 (lw_l b hX hM q3 x4)) (hI : lw_Inv G hX hM wX wM) (hP : va_P G.1 vwCl ((wO ++ wM) ++ wX) H) (hD : va_D (fun q : Nat => s.heap.size ≤ q) ((wO ++ wM) ++ wX)) (hS : va_S (fun q : Nat => s.heap.size ≤ q) s.heap H locs) (hc9 : cells + 10 ≤ 601024) (hs9 : slots + 64 ≤ 7293034)
    (kk : ∀ (u v : va_W) (H1 : Heap) (locs1 : List Loc), lw_Inv G hX hM u v → va_P G.1 vwCl ((wO ++ v) ++ u) H1 → va_D (fun q : Nat => s.heap.size ≤ q) ((wO ++ v) ++ u) → va_S (fun q : Nat => s.heap.size ≤ q) s.heap H1 locs1 → W p l e room_1 s m #[Value.ref b] below meth c H1 locs1 (cells + 10) (slots + 64) Q (F0 m 2097 ls [])) : W p l e room_1 s m #[Value.ref b] below meth c H locs cells slots Q (F0 m 1824 ls []) := by
  obtain ⟨fx, ex⟩ := lw_ix hI
  obtain ⟨fm, em⟩ := lw_im hI
  obtain ⟨r, PX, PM, rm, MX, MM, ⟨r1, r2, r3, r4⟩, hI'⟩ := I_turn (l := l) hI (xs (x4 + nI 1).toNatClampNeg)
  have hx := C0.1
  have hb := C0.2.1
  have hts := C0.2.2.2.1
  refine lv_aload_n hx hb dL_law_1824 rfl (lv_at hl 1 rfl) ?_
  refine lw_arg (k := nI 1) C0 hXs hbl hS hl dL_law_1825 dL_law_1826 dL_law_1828 (by decide) dL_law_1829 dL_law_1830 (hin 1 (by decide)) ?_
  refine lw_callVi (wr := wO ++ wM) (ci := 8) (qc := (RX11, TX11, 12)) (rest := []) C0 (MX H.size) (cwV 1 hts gL_law_X11_turn rfl rfl rfl e_X11_turn ⟨Nat.le_of_ble_eq_true rfl, Nat.le_of_ble_eq_true rfl⟩) hP hD hS rfl rfl ex rfl hl.1 rfl (Nat.le_of_ble_eq_true rfl) dL_law_1831 ⟨(by show cells + 0 ≤ 601024; omega), (by show slots + 0 ≤ 7293034; omega)⟩ (fun u H1 locs1 hu hP hD hS => ?_)
  have hP := k_rotP hP
  have hD := k_rotD hD
  refine lv_aload_n hx hb dL_law_1834 rfl (lv_at hl 2 rfl) ?_
  refine lw_arg (k := nI 1) C0 hXs hbl hS hl dL_law_1835 dL_law_1836 dL_law_1838 (by decide) dL_law_1839 dL_law_1840 (hin 1 (by decide)) ?_
  refine lw_callVi (wr := wO ++ u) (ci := 10) (qc := (RX13, TX13, 38)) (rest := [.int r]) C0 (MM H1.size) (cwV 1 hts gL_law_X13_turn rfl r1 r2 e_X13_turn ⟨(by show rm.frames + 1 ≤ 15; omega), (by show 8 + (_ + 11) + rm.locals ≤ 568; omega)⟩) hP hD hS rfl rfl em rfl hl.1 rfl (Nat.le_of_ble_eq_true rfl) dL_law_1841 ⟨(by show cells + 0 + 0 ≤ 601024; omega), (by show slots + 0 + 0 ≤ 7293034; omega)⟩ (fun v H2 locs2 hv hP hD hS => ?_)
  refine lv_icmp_eq (tgt := 2097) hx hb dL_law_1844 (by decide) (fun _ => ?_) (fun h => absurd rfl h)
  refine W.widen (k := cells + 10) (n := slots + 64) (by omega) (by omega) ?_
  exact kk u v _ _ (hI' u v hu hv) (k_rotP hP) (k_rotD hD) hS
set_option maxHeartbeats 4000000 in
set_option maxRecDepth 100000 in
theorem L_twin (C0 : lw_K G p s m b meth c) (hXs : va_X b L xs s s.heap) (hbl : b < s.heap.size) (hin : ∀ k : Nat, k < 6 → vp_in (x4 + nI k) L) (hl : lv_has ls 7 (lw_l b hX hM q3 x4)) (hI : lw_Inv G hX hM wX wM) (hP : va_P G.1 vwCl ((wO ++ wM) ++ wX) H) (hD : va_D (fun q : Nat => s.heap.size ≤ q) ((wO ++ wM) ++ wX)) (hS : va_S (fun q : Nat => s.heap.size ≤ q) s.heap H locs) (hc9 : cells + 10 ≤ 601024) (hs9 : slots + 64 ≤ 7293034)
    (kk : ∀ (u v : va_W) (H1 : Heap) (locs1 : List Loc), lw_Inv G hX hM u v → va_P G.1 vwCl ((wO ++ v) ++ u) H1 → va_D (fun q : Nat => s.heap.size ≤ q) ((wO ++ v) ++ u) → va_S (fun q : Nat => s.heap.size ≤ q) s.heap H1 locs1 → W p l e room_1 s m #[Value.ref b] below meth c H1 locs1 (cells + 10) (slots + 64) Q (F0 m 2097 ls [])) : W p l e room_1 s m #[Value.ref b] below meth c H locs cells slots Q (F0 m 1849 ls []) := by
  obtain ⟨fx, ex⟩ := lw_ix hI
  obtain ⟨fm, em⟩ := lw_im hI
  obtain ⟨r, PX, PM, rm, MX, MM, ⟨r1, r2, r3, r4⟩, hI'⟩ := I_twin (l := l) hI (xs (x4 + nI 1).toNatClampNeg)
  have hx := C0.1
  have hb := C0.2.1
  have hts := C0.2.2.2.1
  refine lv_aload_n hx hb dL_law_1849 rfl (lv_at hl 1 rfl) ?_
  refine lw_arg (k := nI 1) C0 hXs hbl hS hl dL_law_1850 dL_law_1851 dL_law_1853 (by decide) dL_law_1854 dL_law_1855 (hin 1 (by decide)) ?_
  refine lw_callVi (wr := wO ++ wM) (ci := 8) (qc := (RX11, TX11, 12)) (rest := []) C0 (MX H.size) (cwV 1 hts gL_law_X11_twin rfl rfl rfl e_X11_twin ⟨Nat.le_of_ble_eq_true rfl, Nat.le_of_ble_eq_true rfl⟩) hP hD hS rfl rfl ex rfl hl.1 rfl (Nat.le_of_ble_eq_true rfl) dL_law_1856 ⟨(by show cells + 0 ≤ 601024; omega), (by show slots + 0 ≤ 7293034; omega)⟩ (fun u H1 locs1 hu hP hD hS => ?_)
  have hP := k_rotP hP
  have hD := k_rotD hD
  refine lv_aload_n hx hb dL_law_1859 rfl (lv_at hl 2 rfl) ?_
  refine lw_arg (k := nI 1) C0 hXs hbl hS hl dL_law_1860 dL_law_1861 dL_law_1863 (by decide) dL_law_1864 dL_law_1865 (hin 1 (by decide)) ?_
  refine lw_callVi (wr := wO ++ u) (ci := 10) (qc := (RX13, TX13, 38)) (rest := [.int r]) C0 (MM H1.size) (cwV 1 hts gL_law_X13_twin rfl r1 r2 e_X13_twin ⟨(by show rm.frames + 1 ≤ 15; omega), (by show 8 + (_ + 11) + rm.locals ≤ 568; omega)⟩) hP hD hS rfl rfl em rfl hl.1 rfl (Nat.le_of_ble_eq_true rfl) dL_law_1866 ⟨(by show cells + 0 + 0 ≤ 601024; omega), (by show slots + 0 + 0 ≤ 7293034; omega)⟩ (fun v H2 locs2 hv hP hD hS => ?_)
  refine lv_icmp_eq (tgt := 2097) hx hb dL_law_1869 (by decide) (fun _ => ?_) (fun h => absurd rfl h)
  refine W.widen (k := cells + 10) (n := slots + 64) (by omega) (by omega) ?_
  exact kk u v _ _ (hI' u v hu hv) (k_rotP hP) (k_rotD hD) hS
set_option maxHeartbeats 4000000 in
set_option maxRecDepth 100000 in
theorem L_grow (C0 : lw_K G p s m b meth c) (hXs : va_X b L xs s s.heap) (hbl : b < s.heap.size) (hin : ∀ k : Nat, k < 6 → vp_in (x4 + nI k) L) (hl : lv_has ls 7 (lw_l b hX hM q3 x4)) (hI : lw_Inv G hX hM wX wM) (hP : va_P G.1 vwCl ((wO ++ wM) ++ wX) H) (hD : va_D (fun q : Nat => s.heap.size ≤ q) ((wO ++ wM) ++ wX)) (hS : va_S (fun q : Nat => s.heap.size ≤ q) s.heap H locs) (hc9 : cells + 10 ≤ 601024) (hs9 : slots + 64 ≤ 7293034)
    (kk : ∀ (u v : va_W) (H1 : Heap) (locs1 : List Loc), lw_Inv G hX hM u v → va_P G.1 vwCl ((wO ++ v) ++ u) H1 → va_D (fun q : Nat => s.heap.size ≤ q) ((wO ++ v) ++ u) → va_S (fun q : Nat => s.heap.size ≤ q) s.heap H1 locs1 → W p l e room_1 s m #[Value.ref b] below meth c H1 locs1 (cells + 10) (slots + 64) Q (F0 m 2097 ls [])) : W p l e room_1 s m #[Value.ref b] below meth c H locs cells slots Q (F0 m 1874 ls []) := by
  obtain ⟨fx, ex⟩ := lw_ix hI
  obtain ⟨fm, em⟩ := lw_im hI
  obtain ⟨r, PX, PM, rm, MX, MM, ⟨r1, r2, r3, r4⟩, hI'⟩ := I_grow (l := l) hI (xs (x4 + nI 1).toNatClampNeg) (lw_bo (xs (x4 + nI 2).toNatClampNeg))
  have hx := C0.1
  have hb := C0.2.1
  have hts := C0.2.2.2.1
  refine lv_aload_n hx hb dL_law_1874 rfl (lv_at hl 1 rfl) ?_
  refine lw_arg (k := nI 1) C0 hXs hbl hS hl dL_law_1875 dL_law_1876 dL_law_1878 (by decide) dL_law_1879 dL_law_1880 (hin 1 (by decide)) ?_
  refine lw_arg (k := nI 2) C0 hXs hbl hS hl dL_law_1881 dL_law_1882 dL_law_1884 (by decide) dL_law_1885 dL_law_1886 (hin 2 (by decide)) ?_
  refine lw_bool C0 dL_law_1887 dL_law_1890 dL_law_1891 dL_law_1894 ?_
  refine lw_callVi (wr := wO ++ wM) (ci := 8) (qc := (RX11, TX11, 12)) (rest := []) C0 (MX H.size) (cwV 2 hts gL_law_X11_grow rfl rfl rfl e_X11_grow ⟨Nat.le_of_ble_eq_true rfl, Nat.le_of_ble_eq_true rfl⟩) hP hD hS rfl rfl ex rfl hl.1 rfl (Nat.le_of_ble_eq_true rfl) dL_law_1895 ⟨(by show cells + 0 ≤ 601024; omega), (by show slots + 0 ≤ 7293034; omega)⟩ (fun u H1 locs1 hu hP hD hS => ?_)
  have hP := k_rotP hP
  have hD := k_rotD hD
  refine lv_aload_n hx hb dL_law_1898 rfl (lv_at hl 2 rfl) ?_
  refine lw_arg (k := nI 1) C0 hXs hbl hS hl dL_law_1899 dL_law_1900 dL_law_1902 (by decide) dL_law_1903 dL_law_1904 (hin 1 (by decide)) ?_
  refine lw_arg (k := nI 2) C0 hXs hbl hS hl dL_law_1905 dL_law_1906 dL_law_1908 (by decide) dL_law_1909 dL_law_1910 (hin 2 (by decide)) ?_
  refine lw_bool C0 dL_law_1911 dL_law_1914 dL_law_1915 dL_law_1918 ?_
  refine lw_callVi (wr := wO ++ u) (ci := 10) (qc := (RX13, TX13, 38)) (rest := [.int r]) C0 (MM H1.size) (cwV 2 hts gL_law_X13_grow rfl r1 r2 e_X13_grow ⟨(by show rm.frames + 1 ≤ 15; omega), (by show 8 + (_ + 11) + rm.locals ≤ 568; omega)⟩) hP hD hS rfl rfl em rfl hl.1 rfl (Nat.le_of_ble_eq_true rfl) dL_law_1919 ⟨(by show cells + 0 + 0 ≤ 601024; omega), (by show slots + 0 + 0 ≤ 7293034; omega)⟩ (fun v H2 locs2 hv hP hD hS => ?_)
  refine lv_icmp_eq (tgt := 2097) hx hb dL_law_1922 (by decide) (fun _ => ?_) (fun h => absurd rfl h)
  refine W.widen (k := cells + 10) (n := slots + 64) (by omega) (by omega) ?_
  exact kk u v _ _ (hI' u v hu hv) (k_rotP hP) (k_rotD hD) hS
set_option maxHeartbeats 4000000 in
set_option maxRecDepth 100000 in
theorem L_cut (C0 : lw_K G p s m b meth c) (hXs : va_X b L xs s s.heap) (hbl : b < s.heap.size) (hin : ∀ k : Nat, k < 6 → vp_in (x4 + nI k) L) (hl : lv_has ls 7 (lw_l b hX hM q3 x4)) (hI : lw_Inv G hX hM wX wM) (hP : va_P G.1 vwCl ((wO ++ wM) ++ wX) H) (hD : va_D (fun q : Nat => s.heap.size ≤ q) ((wO ++ wM) ++ wX)) (hS : va_S (fun q : Nat => s.heap.size ≤ q) s.heap H locs) (hc9 : cells + 10 ≤ 601024) (hs9 : slots + 64 ≤ 7293034)
    (kk : ∀ (u v : va_W) (H1 : Heap) (locs1 : List Loc), lw_Inv G hX hM u v → va_P G.1 vwCl ((wO ++ v) ++ u) H1 → va_D (fun q : Nat => s.heap.size ≤ q) ((wO ++ v) ++ u) → va_S (fun q : Nat => s.heap.size ≤ q) s.heap H1 locs1 → W p l e room_1 s m #[Value.ref b] below meth c H1 locs1 (cells + 10) (slots + 64) Q (F0 m 2097 ls [])) : W p l e room_1 s m #[Value.ref b] below meth c H locs cells slots Q (F0 m 1927 ls []) := by
  obtain ⟨fx, ex⟩ := lw_ix hI
  obtain ⟨fm, em⟩ := lw_im hI
  obtain ⟨r, PX, PM, rm, MX, MM, ⟨r1, r2, r3, r4⟩, hI'⟩ := I_cut (l := l) hI (xs (x4 + nI 1).toNatClampNeg)
  have hx := C0.1
  have hb := C0.2.1
  have hts := C0.2.2.2.1
  refine lv_aload_n hx hb dL_law_1927 rfl (lv_at hl 1 rfl) ?_
  refine lw_arg (k := nI 1) C0 hXs hbl hS hl dL_law_1928 dL_law_1929 dL_law_1931 (by decide) dL_law_1932 dL_law_1933 (hin 1 (by decide)) ?_
  refine lw_callVi (wr := wO ++ wM) (ci := 8) (qc := (RX11, TX11, 12)) (rest := []) C0 (MX H.size) (cwV 1 hts gL_law_X11_cut rfl rfl rfl e_X11_cut ⟨Nat.le_of_ble_eq_true rfl, Nat.le_of_ble_eq_true rfl⟩) hP hD hS rfl rfl ex rfl hl.1 rfl (Nat.le_of_ble_eq_true rfl) dL_law_1934 ⟨(by show cells + 0 ≤ 601024; omega), (by show slots + 0 ≤ 7293034; omega)⟩ (fun u H1 locs1 hu hP hD hS => ?_)
  have hP := k_rotP hP
  have hD := k_rotD hD
  refine lv_aload_n hx hb dL_law_1937 rfl (lv_at hl 2 rfl) ?_
  refine lw_arg (k := nI 1) C0 hXs hbl hS hl dL_law_1938 dL_law_1939 dL_law_1941 (by decide) dL_law_1942 dL_law_1943 (hin 1 (by decide)) ?_
  refine lw_callVi (wr := wO ++ u) (ci := 10) (qc := (RX13, TX13, 38)) (rest := [.int r]) C0 (MM H1.size) (cwV 1 hts gL_law_X13_cut rfl r1 r2 e_X13_cut ⟨(by show rm.frames + 1 ≤ 15; omega), (by show 8 + (_ + 11) + rm.locals ≤ 568; omega)⟩) hP hD hS rfl rfl em rfl hl.1 rfl (Nat.le_of_ble_eq_true rfl) dL_law_1944 ⟨(by show cells + 0 + 0 ≤ 601024; omega), (by show slots + 0 + 0 ≤ 7293034; omega)⟩ (fun v H2 locs2 hv hP hD hS => ?_)
  refine lv_icmp_eq (tgt := 2097) hx hb dL_law_1947 (by decide) (fun _ => ?_) (fun h => absurd rfl h)
  refine W.widen (k := cells + 10) (n := slots + 64) (by omega) (by omega) ?_
  exact kk u v _ _ (hI' u v hu hv) (k_rotP hP) (k_rotD hD) hS
set_option maxHeartbeats 4000000 in
set_option maxRecDepth 100000 in
theorem L_undo (C0 : lw_K G p s m b meth c) (hXs : va_X b L xs s s.heap) (hbl : b < s.heap.size) (hin : ∀ k : Nat, k < 6 → vp_in (x4 + nI k) L) (hl : lv_has ls 7 (lw_l b hX hM q3 x4)) (hI : lw_Inv G hX hM wX wM) (hP : va_P G.1 vwCl ((wO ++ wM) ++ wX) H) (hD : va_D (fun q : Nat => s.heap.size ≤ q) ((wO ++ wM) ++ wX)) (hS : va_S (fun q : Nat => s.heap.size ≤ q) s.heap H locs) (hc9 : cells + 10 ≤ 601024) (hs9 : slots + 64 ≤ 7293034)
    (kk : ∀ (u v : va_W) (H1 : Heap) (locs1 : List Loc), lw_Inv G hX hM u v → va_P G.1 vwCl ((wO ++ v) ++ u) H1 → va_D (fun q : Nat => s.heap.size ≤ q) ((wO ++ v) ++ u) → va_S (fun q : Nat => s.heap.size ≤ q) s.heap H1 locs1 → W p l e room_1 s m #[Value.ref b] below meth c H1 locs1 (cells + 10) (slots + 64) Q (F0 m 2097 ls [])) : W p l e room_1 s m #[Value.ref b] below meth c H locs cells slots Q (F0 m 1952 ls []) := by
  obtain ⟨fx, ex⟩ := lw_ix hI
  obtain ⟨fm, em⟩ := lw_im hI
  obtain ⟨r, PX, PM, rm, MX, MM, ⟨r1, r2, r3, r4⟩, hI'⟩ := I_undo (l := l) hI 
  have hx := C0.1
  have hb := C0.2.1
  have hts := C0.2.2.2.1
  refine lv_aload_n hx hb dL_law_1952 rfl (lv_at hl 1 rfl) ?_
  refine lw_callVi (wr := wO ++ wM) (ci := 8) (qc := (RX11, TX11, 12)) (rest := []) C0 (MX H.size) (cwV 0 hts gL_law_X11_undo rfl rfl rfl e_X11_undo ⟨Nat.le_of_ble_eq_true rfl, Nat.le_of_ble_eq_true rfl⟩) hP hD hS rfl rfl ex rfl hl.1 rfl (Nat.le_of_ble_eq_true rfl) dL_law_1953 ⟨(by show cells + 0 ≤ 601024; omega), (by show slots + 0 ≤ 7293034; omega)⟩ (fun u H1 locs1 hu hP hD hS => ?_)
  have hP := k_rotP hP
  have hD := k_rotD hD
  refine lv_aload_n hx hb dL_law_1956 rfl (lv_at hl 2 rfl) ?_
  refine lw_callVi (wr := wO ++ u) (ci := 10) (qc := (RX13, TX13, 38)) (rest := [.int r]) C0 (MM H1.size) (cwV 0 hts gL_law_X13_undo rfl r1 r2 e_X13_undo ⟨(by show rm.frames + 1 ≤ 15; omega), (by show 8 + (_ + 11) + rm.locals ≤ 568; omega)⟩) hP hD hS rfl rfl em rfl hl.1 rfl (Nat.le_of_ble_eq_true rfl) dL_law_1957 ⟨(by show cells + 0 + 0 ≤ 601024; omega), (by show slots + 0 + 0 ≤ 7293034; omega)⟩ (fun v H2 locs2 hv hP hD hS => ?_)
  refine lv_icmp_eq (tgt := 2097) hx hb dL_law_1960 (by decide) (fun _ => ?_) (fun h => absurd rfl h)
  refine W.widen (k := cells + 10) (n := slots + 64) (by omega) (by omega) ?_
  exact kk u v _ _ (hI' u v hu hv) (k_rotP hP) (k_rotD hD) hS
set_option maxHeartbeats 4000000 in
set_option maxRecDepth 100000 in
theorem L_image (C0 : lw_K G p s m b meth c) (hXs : va_X b L xs s s.heap) (hbl : b < s.heap.size) (hin : ∀ k : Nat, k < 6 → vp_in (x4 + nI k) L) (hl : lv_has ls 7 (lw_l b hX hM q3 x4)) (hI : lw_Inv G hX hM wX wM) (hP : va_P G.1 vwCl ((wO ++ wM) ++ wX) H) (hD : va_D (fun q : Nat => s.heap.size ≤ q) ((wO ++ wM) ++ wX)) (hS : va_S (fun q : Nat => s.heap.size ≤ q) s.heap H locs) (hc9 : cells + 10 ≤ 601024) (hs9 : slots + 64 ≤ 7293034)
    (kk : ∀ (u v : va_W) (H1 : Heap) (locs1 : List Loc), lw_Inv G hX hM u v → va_P G.1 vwCl ((wO ++ v) ++ u) H1 → va_D (fun q : Nat => s.heap.size ≤ q) ((wO ++ v) ++ u) → va_S (fun q : Nat => s.heap.size ≤ q) s.heap H1 locs1 → W p l e room_1 s m #[Value.ref b] below meth c H1 locs1 (cells + 10) (slots + 64) Q (F0 m 2097 ls [])) : W p l e room_1 s m #[Value.ref b] below meth c H locs cells slots Q (F0 m 1965 ls []) := by
  obtain ⟨fx, ex⟩ := lw_ix hI
  obtain ⟨fm, em⟩ := lw_im hI
  obtain ⟨r, PX, PM, rm, MX, MM, ⟨r1, r2, r3, r4⟩, hI'⟩ := I_image (l := l) hI 
  have hx := C0.1
  have hb := C0.2.1
  have hts := C0.2.2.2.1
  refine lv_aload_n hx hb dL_law_1965 rfl (lv_at hl 1 rfl) ?_
  refine lw_callVi (wr := wO ++ wM) (ci := 8) (qc := (RX11, TX11, 12)) (rest := []) C0 (MX H.size) (cwV 0 hts gL_law_X11_image rfl rfl rfl e_X11_image ⟨Nat.le_of_ble_eq_true rfl, Nat.le_of_ble_eq_true rfl⟩) hP hD hS rfl rfl ex rfl hl.1 rfl (Nat.le_of_ble_eq_true rfl) dL_law_1966 ⟨(by show cells + 0 ≤ 601024; omega), (by show slots + 0 ≤ 7293034; omega)⟩ (fun u H1 locs1 hu hP hD hS => ?_)
  have hP := k_rotP hP
  have hD := k_rotD hD
  refine lv_aload_n hx hb dL_law_1969 rfl (lv_at hl 2 rfl) ?_
  refine lw_callVi (wr := wO ++ u) (ci := 10) (qc := (RX13, TX13, 38)) (rest := [.int r]) C0 (MM H1.size) (cwV 0 hts gL_law_X13_image rfl r1 r2 e_X13_image ⟨(by show rm.frames + 1 ≤ 15; omega), (by show 8 + (_ + 11) + rm.locals ≤ 568; omega)⟩) hP hD hS rfl rfl em rfl hl.1 rfl (Nat.le_of_ble_eq_true rfl) dL_law_1970 ⟨(by show cells + 0 + 0 ≤ 601024; omega), (by show slots + 0 + 0 ≤ 7293034; omega)⟩ (fun v H2 locs2 hv hP hD hS => ?_)
  refine lv_icmp_eq (tgt := 2097) hx hb dL_law_1973 (by decide) (fun _ => ?_) (fun h => absurd rfl h)
  refine W.widen (k := cells + 10) (n := slots + 64) (by omega) (by omega) ?_
  exact kk u v _ _ (hI' u v hu hv) (k_rotP hP) (k_rotD hD) hS
set_option maxHeartbeats 4000000 in
set_option maxRecDepth 100000 in
theorem L_back (C0 : lw_K G p s m b meth c) (hXs : va_X b L xs s s.heap) (hbl : b < s.heap.size) (hin : ∀ k : Nat, k < 6 → vp_in (x4 + nI k) L) (hl : lv_has ls 7 (lw_l b hX hM q3 x4)) (hI : lw_Inv G hX hM wX wM) (hP : va_P G.1 vwCl ((wO ++ wM) ++ wX) H) (hD : va_D (fun q : Nat => s.heap.size ≤ q) ((wO ++ wM) ++ wX)) (hS : va_S (fun q : Nat => s.heap.size ≤ q) s.heap H locs) (hc9 : cells + 10 ≤ 601024) (hs9 : slots + 64 ≤ 7293034)
    (kk : ∀ (u v : va_W) (H1 : Heap) (locs1 : List Loc), lw_Inv G hX hM u v → va_P G.1 vwCl ((wO ++ v) ++ u) H1 → va_D (fun q : Nat => s.heap.size ≤ q) ((wO ++ v) ++ u) → va_S (fun q : Nat => s.heap.size ≤ q) s.heap H1 locs1 → W p l e room_1 s m #[Value.ref b] below meth c H1 locs1 (cells + 10) (slots + 64) Q (F0 m 2097 ls [])) : W p l e room_1 s m #[Value.ref b] below meth c H locs cells slots Q (F0 m 1978 ls []) := by
  obtain ⟨fx, ex⟩ := lw_ix hI
  obtain ⟨fm, em⟩ := lw_im hI
  obtain ⟨r, PX, PM, rm, MX, MM, ⟨r1, r2, r3, r4⟩, hI'⟩ := I_back (l := l) hI (xs (x4 + nI 1).toNatClampNeg)
  have hx := C0.1
  have hb := C0.2.1
  have hts := C0.2.2.2.1
  refine lv_aload_n hx hb dL_law_1978 rfl (lv_at hl 1 rfl) ?_
  refine lw_arg (k := nI 1) C0 hXs hbl hS hl dL_law_1979 dL_law_1980 dL_law_1982 (by decide) dL_law_1983 dL_law_1984 (hin 1 (by decide)) ?_
  refine lw_callVi (wr := wO ++ wM) (ci := 8) (qc := (RX11, TX11, 12)) (rest := []) C0 (MX H.size) (cwV 1 hts gL_law_X11_back rfl rfl rfl e_X11_back ⟨Nat.le_of_ble_eq_true rfl, Nat.le_of_ble_eq_true rfl⟩) hP hD hS rfl rfl ex rfl hl.1 rfl (Nat.le_of_ble_eq_true rfl) dL_law_1985 ⟨(by show cells + 0 ≤ 601024; omega), (by show slots + 0 ≤ 7293034; omega)⟩ (fun u H1 locs1 hu hP hD hS => ?_)
  have hP := k_rotP hP
  have hD := k_rotD hD
  refine lv_aload_n hx hb dL_law_1988 rfl (lv_at hl 2 rfl) ?_
  refine lw_arg (k := nI 1) C0 hXs hbl hS hl dL_law_1989 dL_law_1990 dL_law_1992 (by decide) dL_law_1993 dL_law_1994 (hin 1 (by decide)) ?_
  refine lw_callVi (wr := wO ++ u) (ci := 10) (qc := (RX13, TX13, 38)) (rest := [.int r]) C0 (MM H1.size) (cwV 1 hts gL_law_X13_back rfl r1 r2 e_X13_back ⟨(by show rm.frames + 1 ≤ 15; omega), (by show 8 + (_ + 11) + rm.locals ≤ 568; omega)⟩) hP hD hS rfl rfl em rfl hl.1 rfl (Nat.le_of_ble_eq_true rfl) dL_law_1995 ⟨(by show cells + 0 + 0 ≤ 601024; omega), (by show slots + 0 + 0 ≤ 7293034; omega)⟩ (fun v H2 locs2 hv hP hD hS => ?_)
  refine lv_icmp_eq (tgt := 2097) hx hb dL_law_1998 (by decide) (fun _ => ?_) (fun h => absurd rfl h)
  refine W.widen (k := cells + 10) (n := slots + 64) (by omega) (by omega) ?_
  exact kk u v _ _ (hI' u v hu hv) (k_rotP hP) (k_rotD hD) hS
set_option maxHeartbeats 4000000 in
set_option maxRecDepth 100000 in
theorem L_size (C0 : lw_K G p s m b meth c) (hXs : va_X b L xs s s.heap) (hbl : b < s.heap.size) (hin : ∀ k : Nat, k < 6 → vp_in (x4 + nI k) L) (hl : lv_has ls 7 (lw_l b hX hM q3 x4)) (hI : lw_Inv G hX hM wX wM) (hP : va_P G.1 vwCl ((wO ++ wM) ++ wX) H) (hD : va_D (fun q : Nat => s.heap.size ≤ q) ((wO ++ wM) ++ wX)) (hS : va_S (fun q : Nat => s.heap.size ≤ q) s.heap H locs) (hc9 : cells + 10 ≤ 601024) (hs9 : slots + 64 ≤ 7293034)
    (kk : ∀ (u v : va_W) (H1 : Heap) (locs1 : List Loc), lw_Inv G hX hM u v → va_P G.1 vwCl ((wO ++ v) ++ u) H1 → va_D (fun q : Nat => s.heap.size ≤ q) ((wO ++ v) ++ u) → va_S (fun q : Nat => s.heap.size ≤ q) s.heap H1 locs1 → W p l e room_1 s m #[Value.ref b] below meth c H1 locs1 (cells + 10) (slots + 64) Q (F0 m 2097 ls [])) : W p l e room_1 s m #[Value.ref b] below meth c H locs cells slots Q (F0 m 2059 ls []) := by
  obtain ⟨fx, ex⟩ := lw_ix hI
  obtain ⟨fm, em⟩ := lw_im hI
  obtain ⟨r, PX, PM, rm, MX, MM, ⟨r1, r2, r3, r4⟩, hI'⟩ := I_size (l := l) hI (xs (x4 + nI 1).toNatClampNeg)
  have hx := C0.1
  have hb := C0.2.1
  have hts := C0.2.2.2.1
  refine lv_aload_n hx hb dL_law_2059 rfl (lv_at hl 1 rfl) ?_
  refine lw_arg (k := nI 1) C0 hXs hbl hS hl dL_law_2060 dL_law_2061 dL_law_2063 (by decide) dL_law_2064 dL_law_2065 (hin 1 (by decide)) ?_
  refine lw_callVi (wr := wO ++ wM) (ci := 8) (qc := (RX11, TX11, 12)) (rest := []) C0 (MX H.size) (cwV 1 hts gL_law_X11_size rfl rfl rfl e_X11_size ⟨Nat.le_of_ble_eq_true rfl, Nat.le_of_ble_eq_true rfl⟩) hP hD hS rfl rfl ex rfl hl.1 rfl (Nat.le_of_ble_eq_true rfl) dL_law_2066 ⟨(by show cells + 0 ≤ 601024; omega), (by show slots + 0 ≤ 7293034; omega)⟩ (fun u H1 locs1 hu hP hD hS => ?_)
  have hP := k_rotP hP
  have hD := k_rotD hD
  refine lv_aload_n hx hb dL_law_2069 rfl (lv_at hl 2 rfl) ?_
  refine lw_arg (k := nI 1) C0 hXs hbl hS hl dL_law_2070 dL_law_2071 dL_law_2073 (by decide) dL_law_2074 dL_law_2075 (hin 1 (by decide)) ?_
  refine lw_callVi (wr := wO ++ u) (ci := 10) (qc := (RX13, TX13, 38)) (rest := [.int r]) C0 (MM H1.size) (cwV 1 hts gL_law_X13_size rfl r1 r2 e_X13_size ⟨(by show rm.frames + 1 ≤ 15; omega), (by show 8 + (_ + 11) + rm.locals ≤ 568; omega)⟩) hP hD hS rfl rfl em rfl hl.1 rfl (Nat.le_of_ble_eq_true rfl) dL_law_2076 ⟨(by show cells + 0 + 0 ≤ 601024; omega), (by show slots + 0 + 0 ≤ 7293034; omega)⟩ (fun v H2 locs2 hv hP hD hS => ?_)
  refine lv_icmp_eq (tgt := 2097) hx hb dL_law_2079 (by decide) (fun _ => ?_) (fun h => absurd rfl h)
  refine W.widen (k := cells + 10) (n := slots + 64) (by omega) (by omega) ?_
  exact kk u v _ _ (hI' u v hu hv) (k_rotP hP) (k_rotD hD) hS
set_option maxHeartbeats 4000000 in
set_option maxRecDepth 100000 in
theorem L_trouble (C0 : lw_K G p s m b meth c) (hXs : va_X b L xs s s.heap) (hbl : b < s.heap.size) (hin : ∀ k : Nat, k < 6 → vp_in (x4 + nI k) L) (hl : lv_has ls 7 (lw_l b hX hM q3 x4)) (hI : lw_Inv G hX hM wX wM) (hP : va_P G.1 vwCl ((wO ++ wM) ++ wX) H) (hD : va_D (fun q : Nat => s.heap.size ≤ q) ((wO ++ wM) ++ wX)) (hS : va_S (fun q : Nat => s.heap.size ≤ q) s.heap H locs) (hc9 : cells + 10 ≤ 601024) (hs9 : slots + 64 ≤ 7293034)
    (kk : ∀ (u v : va_W) (H1 : Heap) (locs1 : List Loc), lw_Inv G hX hM u v → va_P G.1 vwCl ((wO ++ v) ++ u) H1 → va_D (fun q : Nat => s.heap.size ≤ q) ((wO ++ v) ++ u) → va_S (fun q : Nat => s.heap.size ≤ q) s.heap H1 locs1 → W p l e room_1 s m #[Value.ref b] below meth c H1 locs1 (cells + 10) (slots + 64) Q (F0 m 2097 ls [])) : W p l e room_1 s m #[Value.ref b] below meth c H locs cells slots Q (F0 m 2084 ls []) := by
  obtain ⟨fx, ex⟩ := lw_ix hI
  obtain ⟨fm, em⟩ := lw_im hI
  obtain ⟨r, PX, PM, rm, MX, MM, ⟨r1, r2, r3, r4⟩, hI'⟩ := I_trouble (l := l) hI 
  have hx := C0.1
  have hb := C0.2.1
  have hts := C0.2.2.2.1
  refine lv_aload_n hx hb dL_law_2084 rfl (lv_at hl 1 rfl) ?_
  refine lw_callVi (wr := wO ++ wM) (ci := 8) (qc := (RX11, TX11, 12)) (rest := []) C0 (MX H.size) (cwV 0 hts gL_law_X11_trouble rfl rfl rfl e_X11_trouble ⟨Nat.le_of_ble_eq_true rfl, Nat.le_of_ble_eq_true rfl⟩) hP hD hS rfl rfl ex rfl hl.1 rfl (Nat.le_of_ble_eq_true rfl) dL_law_2085 ⟨(by show cells + 0 ≤ 601024; omega), (by show slots + 0 ≤ 7293034; omega)⟩ (fun u H1 locs1 hu hP hD hS => ?_)
  have hP := k_rotP hP
  have hD := k_rotD hD
  refine lv_aload_n hx hb dL_law_2088 rfl (lv_at hl 2 rfl) ?_
  refine lw_callVi (wr := wO ++ u) (ci := 10) (qc := (RX13, TX13, 38)) (rest := [.int r]) C0 (MM H1.size) (cwV 0 hts gL_law_X13_trouble rfl r1 r2 e_X13_trouble ⟨(by show rm.frames + 1 ≤ 15; omega), (by show 8 + (_ + 11) + rm.locals ≤ 568; omega)⟩) hP hD hS rfl rfl em rfl hl.1 rfl (Nat.le_of_ble_eq_true rfl) dL_law_2089 ⟨(by show cells + 0 + 0 ≤ 601024; omega), (by show slots + 0 + 0 ≤ 7293034; omega)⟩ (fun v H2 locs2 hv hP hD hS => ?_)
  refine lv_icmp_eq (tgt := 2097) hx hb dL_law_2092 (by decide) (fun _ => ?_) (fun h => absurd rfl h)
  refine W.widen (k := cells + 10) (n := slots + 64) (by omega) (by omega) ?_
  exact kk u v _ _ (hI' u v hu hv) (k_rotP hP) (k_rotD hD) hS
end LW
