/-! THE LAW, from its entry -/
set_option maxHeartbeats 4000000 in
set_option maxRecDepth 100000 in
theorem whole_start {p : Program} {e : Env} {s : State} {m : MethodId} {below : List Frame} {meth : Method} {c : Code} (l : Launch) (hflags : l.flags = flags0) {b L : Nat} {xs : Nat → Int32} (hL : L ≤ 260) (C0 : lw_At p s m meth c b L xs) : W p l e room_1 s m #[Value.ref b] below meth c s.heap [] 0 0 (lw_Z below #[Value.ref b] s) (entryFrame m ([Value.ref b] : List Value).toArray 21) := by
  obtain ⟨hx, hb, hr, hml, hown, hts, hX, hbl, hlocks, hgv⟩ := C0
  obtain ⟨G, hkX, e1, e2, e3⟩ := k_X_start hts hgv hX hbl
  have C1 : k_C G p s m #[Value.ref b] meth c (fun q : Nat => s.heap.size ≤ q) code RL lw_tbl 21 (some .boolean) meth.name := ⟨hx, hb, hr, hts, hown, hlocks, hml, fun q h => h, hkX, rfl⟩
  have hA : ∀ q : Nat, s.heap.size ≤ q → (fun q : Nat => s.heap.size ≤ q) q := fun _ h => h
  have hK := hkX.1
  have hS : va_S (fun q : Nat => s.heap.size ≤ q) s.heap s.heap [] := va_S.rf
  have hP : va_P G.1 vwCl [] s.heap := fun k q h => by simp at h
  have hD : va_D (fun q : Nat => s.heap.size ≤ q) [] := ⟨fun i j p q h => by simp at h, fun k q h => by simp at h⟩
  have hl := lv_entry ([.ref b]) (n := 21) (Nat.le_of_ble_eq_true rfl)
  rw [lg_entry_eq]
  generalize (lg_sl ([.ref b]) ++ List.replicate (21 - (lg_sl ([.ref b])).length) Slot.unset).toArray = ls at hl ⊢
  have hl : lv_has ls 21 [(0, .ref b)] := hl
  refine va_new (ci := 8) (fs := [.null, .null, .null, .null, .null, .null, .null, .null, .null, .int 0, .int 0, .int 0]) (C := RX11) (T := TX11) (N := 12) hx hb hts k_u_RX11 tyX11 tyX11_ok hown (hts _ lww_a) (hts _ lww_b) (hts _ lww_c) hK hP hD hS hA rfl (by decide +kernel) (Nat.le_of_ble_eq_true rfl) (Nat.le_of_ble_eq_true rfl) dL_law_0 (fun q1 H hP hD hS => ?_)
  refine lv_dup hx hb dL_law_3 rfl ?_
  refine lw_callIv (wr := []) (rest := [.ref q1]) C1 (l_X11_init H.size) (cwI 0 C1.2.2.2.1 gL_law_X11_init rfl rfl rfl (hts _ lww_c) (hts _ lww_d) (hts _ lww_e) rfl (by decide +kernel) ⟨Nat.le_of_ble_eq_true rfl, Nat.le_of_ble_eq_true rfl⟩) hP hD hS rfl hl.1 rfl (Nat.le_of_ble_eq_true rfl) dL_law_4 ⟨Nat.le_of_ble_eq_true rfl, Nat.le_of_ble_eq_true rfl⟩ (fun u H locs hu hP hD hS => ?_)
  refine lv_astore_n (lv' := [(1, .ref q1), (0, .ref b)]) hx hb dL_law_7 rfl hl (by decide) rfl (fun ls hl => ?_)
  have hP : va_P G.1 vwCl u H := hP
  have hD : va_D (fun q : Nat => s.heap.size ≤ q) u := hD
  refine lv_bipush (v := 7) hx hb dL_law_8 (by decide) ?_
  refine k_newa (atype := .int) (ty := .int) (a0 := (7, .inl (fun _ => 0))) C1 (hts _ lww_f) rfl 1 rfl (fun _ h9 => h9) hP hD hS (fun _ => rfl) (by decide) (by decide) (Nat.le_of_ble_eq_true rfl) (Nat.le_of_ble_eq_true rfl) (Nat.le_of_ble_eq_true rfl) dL_law_10 (fun q2 H hP hD hS => ?_)
  refine lv_astore_n (lv' := [(2, .ref q2), (1, .ref q1), (0, .ref b)]) hx hb dL_law_12 rfl hl (by decide) rfl (fun ls hl => ?_)
  refine lv_bipush (v := 21) hx hb dL_law_13 (by decide) ?_
  refine k_newa (atype := .int) (ty := .int) (a0 := (21, .inl (fun _ => 0))) C1 (hts _ lww_f) rfl 1 rfl (fun _ h9 => h9) hP hD hS (fun _ => rfl) (by decide) (by decide) (Nat.le_of_ble_eq_true rfl) (Nat.le_of_ble_eq_true rfl) (Nat.le_of_ble_eq_true rfl) dL_law_15 (fun q3 H hP hD hS => ?_)
  refine lv_astore_n (lv' := [(3, .ref q3), (2, .ref q2), (1, .ref q1), (0, .ref b)]) hx hb dL_law_17 rfl hl (by decide) rfl (fun ls hl => ?_)
  refine lv_iconst (v := 4) hx hb dL_law_18 (by decide) ?_
  refine k_newa (atype := .int) (ty := .int) (a0 := (4, .inl (fun _ => 0))) C1 (hts _ lww_f) rfl 1 rfl (fun _ h9 => h9) hP hD hS (fun _ => rfl) (by decide) (by decide) (Nat.le_of_ble_eq_true rfl) (Nat.le_of_ble_eq_true rfl) (Nat.le_of_ble_eq_true rfl) dL_law_19 (fun q4 H hP hD hS => ?_)
  refine lv_astore (lv' := [(4, .ref q4), (3, .ref q3), (2, .ref q2), (1, .ref q1), (0, .ref b)]) hx hb dL_law_21 hl (by decide) rfl (fun ls hl => ?_)
  have hpm : List.Perm (((u ++ [(q2, .inl (k_cI G, 7, .inl (fun _ => 0)))]) ++ [(q3, .inl (k_cI G, 21, .inl (fun _ => 0)))]) ++ [(q4, .inl (k_cI G, 4, .inl (fun _ => 0)))]) ([(q3, .inl (k_cI G, 21, .inl (fun _ => 0))), (q2, .inl (k_cI G, 7, .inl (fun _ => 0))), (q4, .inl (k_cI G, 4, .inl (fun _ => 0)))] ++ u) := by
    rw [List.append_assoc, List.append_assoc]
    exact List.perm_append_comm.trans (List.Perm.swap _ _ _)
  exact t_L_law_23 C1 hA u (fun _ => 0) (fun _ => 0) (fun _ => 0) s_0 H _ ls hu (k_permP hP hpm) (k_permD hD hpm) hS (by rw [e1]; exact lv_sub hl [4, 3, 2, 1, 0] rfl) (by rw [e2, e3]; exact law_true hL)
