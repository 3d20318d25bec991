/-! THE LAW, from its entry -/
set_option maxHeartbeats 4000000 in
set_option maxRecDepth 100000 in
/-- from the entry, for every script of at most 3072 ints, the law comes to its end with true -/
theorem whole_start {p : Program} {e : Env} {s : State} {m : MethodId} {below : List Frame} {meth : Method} {c : Code} (l : Launch) (hflags : l.flags = flags0) {b L : Nat} {xs : Nat → Int32} (hL : L ≤ 3072) (C0 : lw_At p s m meth c b L xs) : W p l e room_1 s m #[Value.ref b] below meth c s.heap [] 0 0 (lw_Z below #[Value.ref b] s) (entryFrame m ([Value.ref b] : List Value).toArray 7) := by
  obtain ⟨hx, hb, hr, hml, hown, hts, hX, hbl, hlocks, hgv⟩ := C0
  obtain ⟨G, hkX⟩ := k_X_start hts hgv
  have C1 : lw_K G p s m b meth c := ⟨hx, hb, hr, hts, hown, hlocks, hml, fun q h => h, hkX, rfl⟩
  have hst : l.stackTraces = false := by
    show (!l.flags.contains noTraceFlag) = false
    rw [hflags]
    decide +kernel
  have hA : ∀ q : Nat, s.heap.size ≤ q → (fun q : Nat => s.heap.size ≤ q) q := fun _ h => h
  have hK := hkX.1
  have hS : va_S (fun q : Nat => s.heap.size ≤ q) s.heap s.heap [] := va_S.rf
  have hP : va_P G.1 vwCl [] s.heap := fun k q h => by simp at h
  have hD : va_D (fun q : Nat => s.heap.size ≤ q) [] := ⟨fun i j p q h => by simp at h, fun k q h => by simp at h⟩
  have hl := lv_entry ([.ref b]) (n := 7) (Nat.le_of_ble_eq_true rfl)
  rw [lg_entry_eq]
  generalize (lg_sl ([.ref b]) ++ List.replicate (7 - (lg_sl ([.ref b])).length) Slot.unset).toArray = ls at hl ⊢
  have hl : lv_has ls 7 [(0, .ref b)] := hl
  refine va_new (ci := 8) (fs := [.null, .null, .null, .null, .null, .null, .null, .null, .null, .int 0, .int 0, .int 0]) (C := RX11) (T := TX11) (N := 12) hx hb hts k_u_RX11 tyX11 tyX11_ok hown (hts (.classLink RL 8 RX11) (List.mem_of_getElem? (i := 104) (by decide +kernel))) (hts (.instantiable RX11 12) (List.mem_of_getElem? (i := 105) (by decide +kernel))) (hts (.initialized RX11) (List.mem_of_getElem? (i := 80) (by decide +kernel))) hK hP hD hS hA rfl (by decide +kernel) (Nat.le_of_ble_eq_true rfl) (Nat.le_of_ble_eq_true rfl) dL_law_0 (fun q1 H hP hD hS => ?_)
  refine lv_dup hx hb dL_law_3 rfl ?_
  refine lw_callIv (wr := []) (rest := [.ref q1]) C1 (l_X11_init H.size) (cwI 0 C1.2.2.2.1 gL_law_X11_init rfl rfl rfl (hts (.initialized RX11) (List.mem_of_getElem? (i := 80) (by decide +kernel))) (hts (.methodLink RL 15 yX11_init) (List.mem_of_getElem? (i := 106) (by decide +kernel))) (hts (.instanceMethod yX11_init) (List.mem_of_getElem? (i := 107) (by decide +kernel))) rfl (by decide +kernel) ⟨Nat.le_of_ble_eq_true rfl, Nat.le_of_ble_eq_true rfl⟩) hP hD hS rfl hl.1 rfl (Nat.le_of_ble_eq_true rfl) dL_law_4 ⟨Nat.le_of_ble_eq_true rfl, Nat.le_of_ble_eq_true rfl⟩ (fun u H locs hu hP hD hS => ?_)
  refine lv_astore_n (lv' := [(1, .ref q1), (0, .ref b)]) hx hb dL_law_7 rfl hl (by decide) rfl (fun ls hl => ?_)
  have hP : va_P G.1 vwCl u H := hP
  have hD : va_D (fun q : Nat => s.heap.size ≤ q) u := hD
  refine va_new (ci := 10) (fs := [.int 0, .int 0, .int 0, .null, .null, .null, .int 0, .int 0, .int 0, .int 0, .int 0, .int 0, .int 0, .int 0, .int 0, .int 0, .int 0, .long 0, .null, .null, .null, .int 0, .int 0, .null, .null, .null, .int 0, .int 0, .int 0, .null, .null, .null, .int 0, .int 0, .int 0, .null, .int 0, .int 0]) (C := RX13) (T := TX13) (N := 38) hx hb hts k_u_RX13 tyX13 tyX13_ok hown (hts (.classLink RL 16 RX13) (List.mem_of_getElem? (i := 1217) (by decide +kernel))) (hts (.instantiable RX13 38) (List.mem_of_getElem? (i := 1218) (by decide +kernel))) (hts (.initialized RX13) (List.mem_of_getElem? (i := 89) (by decide +kernel))) hK hP hD hS hA rfl (by decide +kernel) (Nat.le_of_ble_eq_true rfl) (Nat.le_of_ble_eq_true rfl) dL_law_8 (fun q2 H hP hD hS => ?_)
  refine lv_dup hx hb dL_law_11 rfl ?_
  refine lw_callIv (wr := u) (rest := [.ref q2]) C1 (l_X13_init H.size) (cwI 0 C1.2.2.2.1 gL_law_X13_init rfl rfl rfl (hts (.initialized RX13) (List.mem_of_getElem? (i := 89) (by decide +kernel))) (hts (.methodLink RL 18 yX13_init) (List.mem_of_getElem? (i := 1219) (by decide +kernel))) (hts (.instanceMethod yX13_init) (List.mem_of_getElem? (i := 1220) (by decide +kernel))) rfl (by decide +kernel) ⟨Nat.le_of_ble_eq_true rfl, Nat.le_of_ble_eq_true rfl⟩) hP hD hS rfl hl.1 rfl (Nat.le_of_ble_eq_true rfl) dL_law_12 ⟨Nat.le_of_ble_eq_true rfl, Nat.le_of_ble_eq_true rfl⟩ (fun v H locs hv hP hD hS => ?_)
  refine lv_astore_n (lv' := [(2, .ref q2), (1, .ref q1), (0, .ref b)]) hx hb dL_law_15 rfl hl (by decide) rfl (fun ls hl => ?_)
  refine lv_iconst (v := 1) hx hb dL_law_16 (by decide) ?_
  refine k_newa (atype := .long) (ty := .long) (a0 := (1, .inr (.inl (fun _ => 0)))) C1 (hts (.arrayClass .long) (List.mem_of_getElem? (i := 347) (by decide +kernel))) rfl 2 rfl (fun _ h9 => h9) hP hD hS (fun _ => rfl) (by decide) (by decide) (Nat.le_of_ble_eq_true rfl) (Nat.le_of_ble_eq_true rfl) (Nat.le_of_ble_eq_true rfl) dL_law_17 (fun q3 H hP hD hS => ?_)
  refine lv_astore_n (lv' := [(3, .ref q3), (2, .ref q2), (1, .ref q1), (0, .ref b)]) hx hb dL_law_19 rfl hl (by decide) rfl (fun ls hl => ?_)
  refine lv_iconst (v := 0) hx hb dL_law_20 (by decide) ?_
  refine lv_istore (lv' := [(4, .int 0), (3, .ref q3), (2, .ref q2), (1, .ref q1), (0, .ref b)]) hx hb dL_law_21 hl (by decide) rfl (fun ls hl => ?_)
  have hP : va_P G.1 vwCl (lw_O G q3 (fun _ => 0) ++ (u ++ v)) H := k_swP hP
  have hD : va_D (fun q : Nat => s.heap.size ≤ q) (lw_O G q3 (fun _ => 0) ++ (u ++ v)) := k_swD hD
  rw [← List.append_assoc] at hP hD
  exact lw_loop hst C1 hX hbl hL (L + 1) 0 (Nat.zero_le L) (by omega) u v (fun _ => 0) H _ _ _ ls ⟨_, _, hu, Or.inl ⟨hv, R0_start⟩⟩ (k_rotP hP) (k_rotD hD) hS (lv_sub hl [4, 3, 2, 1, 0] rfl) (Nat.le_of_ble_eq_true rfl) (Nat.le_of_ble_eq_true rfl)
