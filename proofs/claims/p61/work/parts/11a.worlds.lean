/-! THE WHOLE WORLDS: a bundle of numbers (ints, longs, rows of ints, rows of longs) for each object -/
abbrev k_SB : Type := (Nat → Int32) × (Nat → Int64) × (Nat → Nat → Int32) × (Nat → Nat → Int64)
def s_i (σ : k_SB) (k : Nat) (v : Int32) : k_SB := (fun j => cond (Nat.beq j k) v (σ.1 j), σ.2)
def s_l (σ : k_SB) (k : Nat) (v : Int64) : k_SB := (σ.1, fun j => cond (Nat.beq j k) v (σ.2.1 j), σ.2.2)
def s_a (σ : k_SB) (k : Nat) (v : Nat → Int32) : k_SB := (σ.1, σ.2.1, fun j => cond (Nat.beq j k) v (σ.2.2.1 j), σ.2.2.2)
def s_b (σ : k_SB) (k : Nat) (v : Nat → Int64) : k_SB := (σ.1, σ.2.1, σ.2.2.1, fun j => cond (Nat.beq j k) v (σ.2.2.2 j))
def s_0 : k_SB := (fun _ => 0, fun _ => 0, fun _ _ => 0, fun _ _ => 0)
abbrev X_latestTrouble (σ : k_SB) : Int32 := σ.1 0
abbrev X_latestFault (σ : k_SB) : Int32 := σ.1 1
abbrev X_faultPlace (σ : k_SB) : Int32 := σ.1 2
abbrev X_acts_count (σ : k_SB) : Int32 := σ.1 3
abbrev X_draft_complete (σ : k_SB) : Int32 := σ.1 4
abbrev X_draft_near (σ : k_SB) : Int32 := σ.1 5
abbrev X_draft_second (σ : k_SB) : Int32 := σ.1 6
abbrev X_draft_third (σ : k_SB) : Int32 := σ.1 7
abbrev X_draft_growth (σ : k_SB) : Int32 := σ.1 8
abbrev X_draft_unsureCount (σ : k_SB) : Int32 := σ.1 9
abbrev X_draft_agreedCount (σ : k_SB) : Int32 := σ.1 10
abbrev X_draft_stacks_count (σ : k_SB) : Int32 := σ.1 11
abbrev X_images_count (σ : k_SB) : Int32 := σ.1 12
abbrev X_landscape_steps (σ : k_SB) : Int32 := σ.1 13
abbrev X_landscape_rows (σ : k_SB) : Int32 := σ.1 14
abbrev X_landscape_queued (σ : k_SB) : Int32 := σ.1 15
abbrev X_landscape_leastAbove (σ : k_SB) : Int32 := σ.1 16
abbrev X_landscape_rowAtRest (σ : k_SB) : Int32 := σ.1 17
abbrev X_landscape_slipsToRest (σ : k_SB) : Int32 := σ.1 18
abbrev X_now_count (σ : k_SB) : Int32 := σ.1 19
abbrev X_reader_end (σ : k_SB) : Int32 := σ.1 20
abbrev X_reader_next (σ : k_SB) : Int32 := σ.1 21
abbrev X_reader_kind (σ : k_SB) : Int32 := σ.1 22
abbrev X_reader_place (σ : k_SB) : Int32 := σ.1 23
abbrev X_reader_length (σ : k_SB) : Int32 := σ.1 24
abbrev X_reader_value (σ : k_SB) : Int32 := σ.1 25
abbrev X_reader_number (σ : k_SB) : Int32 := σ.1 26
abbrev X_reader_fault (σ : k_SB) : Int32 := σ.1 27
abbrev X_tape_length (σ : k_SB) : Int32 := σ.1 28
abbrev X_told_complete (σ : k_SB) : Int32 := σ.1 29
abbrev X_told_near (σ : k_SB) : Int32 := σ.1 30
abbrev X_told_second (σ : k_SB) : Int32 := σ.1 31
abbrev X_told_third (σ : k_SB) : Int32 := σ.1 32
abbrev X_told_growth (σ : k_SB) : Int32 := σ.1 33
abbrev X_told_unsureCount (σ : k_SB) : Int32 := σ.1 34
abbrev X_told_agreedCount (σ : k_SB) : Int32 := σ.1 35
abbrev X_told_stacks_count (σ : k_SB) : Int32 := σ.1 36
abbrev X_reader_word (σ : k_SB) : Int64 := σ.2.1 0
abbrev X_acts_changed (σ : k_SB) : Nat → Int32 := σ.2.2.1 0
abbrev X_acts_lengths (σ : k_SB) : Nat → Int32 := σ.2.2.1 1
abbrev X_acts_rows (σ : k_SB) : Nat → Int32 := σ.2.2.1 2
abbrev X_draft_agreedDistances (σ : k_SB) : Nat → Int32 := σ.2.2.1 3
abbrev X_draft_agreedLayers (σ : k_SB) : Nat → Int32 := σ.2.2.1 4
abbrev X_draft_agreedStacks (σ : k_SB) : Nat → Int32 := σ.2.2.1 5
abbrev X_draft_stacks_lengths (σ : k_SB) : Nat → Int32 := σ.2.2.1 6
abbrev X_draft_stacks_rows (σ : k_SB) : Nat → Int32 := σ.2.2.1 7
abbrev X_draft_unsurePlaces (σ : k_SB) : Nat → Int32 := σ.2.2.1 8
abbrev X_draft_unsureStacks (σ : k_SB) : Nat → Int32 := σ.2.2.1 9
abbrev X_images_lengths (σ : k_SB) : Nat → Int32 := σ.2.2.1 10
abbrev X_images_rows (σ : k_SB) : Nat → Int32 := σ.2.2.1 11
abbrev X_landscape_energies (σ : k_SB) : Nat → Int32 := σ.2.2.1 12
abbrev X_landscape_queue (σ : k_SB) : Nat → Int32 := σ.2.2.1 13
abbrev X_landscape_reached (σ : k_SB) : Nat → Int32 := σ.2.2.1 14
abbrev X_lines_counts (σ : k_SB) : Nat → Int32 := σ.2.2.1 15
abbrev X_lines_spare (σ : k_SB) : Nat → Int32 := σ.2.2.1 16
abbrev X_now_lengths (σ : k_SB) : Nat → Int32 := σ.2.2.1 17
abbrev X_now_rows (σ : k_SB) : Nat → Int32 := σ.2.2.1 18
abbrev X_tape_bytes (σ : k_SB) : Nat → Int32 := σ.2.2.1 19
abbrev X_told_agreedDistances (σ : k_SB) : Nat → Int32 := σ.2.2.1 20
abbrev X_told_agreedLayers (σ : k_SB) : Nat → Int32 := σ.2.2.1 21
abbrev X_told_agreedStacks (σ : k_SB) : Nat → Int32 := σ.2.2.1 22
abbrev X_told_stacks_lengths (σ : k_SB) : Nat → Int32 := σ.2.2.1 23
abbrev X_told_stacks_rows (σ : k_SB) : Nat → Int32 := σ.2.2.1 24
abbrev X_told_unsurePlaces (σ : k_SB) : Nat → Int32 := σ.2.2.1 25
abbrev X_told_unsureStacks (σ : k_SB) : Nat → Int32 := σ.2.2.1 26
abbrev X_draft_names (σ : k_SB) : Nat → Int64 := σ.2.2.2 0
abbrev X_told_names (σ : k_SB) : Nat → Int64 := σ.2.2.2 1
def XW (G : k_G) (h : Nat) (σ : k_SB) (w : va_W) : Prop := ∃ (a : Nat → Nat), w = [(h, .inr (8, [.ref (a 28), .ref (a 27), .ref (a 24), .ref (a 0), .ref (a 14), .ref (a 21), .ref (a 17), .ref (a 30), .ref (a 4), .int (σ.1 0), .int (σ.1 1), .int (σ.1 2)])), ((a 0), .inr (0, [.ref (a 1), .ref (a 3), .ref (a 2), .int (σ.1 3)])), ((a 1), .inl (k_cI G, 16, .inl (σ.2.2.1 0))), ((a 2), .inl (k_cI G, 16, .inl (σ.2.2.1 1))), ((a 3), .inl (k_cI G, 16, .inl (σ.2.2.1 2))), ((a 4), .inr (2, [.int (σ.1 4), .int (σ.1 5), .int (σ.1 6), .int (σ.1 7), .int (σ.1 8), .ref (a 9), .ref (a 8), .int (σ.1 9), .ref (a 13), .ref (a 12), .int (σ.1 10), .ref (a 7), .ref (a 5), .ref (a 6)])), ((a 5), .inl (k_cI G, 6, .inl (σ.2.2.1 3))), ((a 6), .inl (k_cI G, 6, .inl (σ.2.2.1 4))), ((a 7), .inl (k_cI G, 6, .inl (σ.2.2.1 5))), ((a 8), .inl (k_cJ G, 5, .inr (.inl (σ.2.2.2 0)))), ((a 9), .inr (6, [.ref (a 11), .ref (a 10), .int (σ.1 11)])), ((a 10), .inl (k_cI G, 5, .inl (σ.2.2.1 6))), ((a 11), .inl (k_cI G, 5, .inl (σ.2.2.1 7))), ((a 12), .inl (k_cI G, 4, .inl (σ.2.2.1 8))), ((a 13), .inl (k_cI G, 4, .inl (σ.2.2.1 9))), ((a 14), .inr (1, [.ref (a 16), .ref (a 15), .int (σ.1 12)])), ((a 15), .inl (k_cI G, 15, .inl (σ.2.2.1 10))), ((a 16), .inl (k_cI G, 15, .inl (σ.2.2.1 11))), ((a 17), .inr (3, [.ref (a 18), .ref (a 19), .ref (a 20), .int (σ.1 13), .int (σ.1 14), .int (σ.1 15), .int (σ.1 16), .int (σ.1 17), .int (σ.1 18)])), ((a 18), .inl (k_cI G, 4096, .inl (σ.2.2.1 12))), ((a 19), .inl (k_cI G, 4096, .inl (σ.2.2.1 13))), ((a 20), .inl (k_cZ G, 4096, .inl (σ.2.2.1 14))), ((a 21), .inr (4, [.ref (a 22), .ref (a 23)])), ((a 22), .inl (k_cI G, 36, .inl (σ.2.2.1 15))), ((a 23), .inl (k_cI G, 36, .inl (σ.2.2.1 16))), ((a 24), .inr (6, [.ref (a 26), .ref (a 25), .int (σ.1 19)])), ((a 25), .inl (k_cI G, 5, .inl (σ.2.2.1 17))), ((a 26), .inl (k_cI G, 5, .inl (σ.2.2.1 18))), ((a 27), .inr (5, [.ref (a 28), .int (σ.1 20), .int (σ.1 21), .int (σ.1 22), .int (σ.1 23), .int (σ.1 24), .int (σ.1 25), .long (σ.2.1 0), .int (σ.1 26), .int (σ.1 27)])), ((a 28), .inr (7, [.ref (a 29), .int (σ.1 28)])), ((a 29), .inl (k_cB G, 500, .inl (σ.2.2.1 19))), ((a 30), .inr (2, [.int (σ.1 29), .int (σ.1 30), .int (σ.1 31), .int (σ.1 32), .int (σ.1 33), .ref (a 35), .ref (a 34), .int (σ.1 34), .ref (a 39), .ref (a 38), .int (σ.1 35), .ref (a 33), .ref (a 31), .ref (a 32)])), ((a 31), .inl (k_cI G, 6, .inl (σ.2.2.1 20))), ((a 32), .inl (k_cI G, 6, .inl (σ.2.2.1 21))), ((a 33), .inl (k_cI G, 6, .inl (σ.2.2.1 22))), ((a 34), .inl (k_cJ G, 5, .inr (.inl (σ.2.2.2 1)))), ((a 35), .inr (6, [.ref (a 37), .ref (a 36), .int (σ.1 36)])), ((a 36), .inl (k_cI G, 5, .inl (σ.2.2.1 23))), ((a 37), .inl (k_cI G, 5, .inl (σ.2.2.1 24))), ((a 38), .inl (k_cI G, 4, .inl (σ.2.2.1 25))), ((a 39), .inl (k_cI G, 4, .inl (σ.2.2.1 26)))]
theorem XW_head {G : k_G} {h : Nat} {σ : k_SB} {w : va_W} (hw : XW G h σ w) : ∃ fs, w[0]? = some (h, .inr (8, fs)) := by
  obtain ⟨a, rfl⟩ := hw
  exact ⟨_, rfl⟩
abbrev fx_feed (p1 : Int32) (p2 : Int32) (p3 : Int32) (p4 : Int32) (p5 : Int32) (σ : k_SB) : Option (Int32 × Int32 × (Nat → Int32)) := f_X11_feed p1 p2 p3 p4 p5 (σ.1 28) (σ.2.2.1 19)
abbrev ux_feed (σ : k_SB) (o : Int32 × Int32 × (Nat → Int32)) : k_SB := s_a (s_i σ 28 o.2.1) 19 o.2.2
set_option maxRecDepth 100000 in
theorem lx_feed {l : Launch} {G : k_G} {h : Nat} {σ : k_SB} {w : va_W} (hw : XW G h σ w) {p1 : Int32} {p2 : Int32} {p3 : Int32} {p4 : Int32} {p5 : Int32} {o : Int32 × Int32 × (Nat → Int32)} (hrun : fx_feed p1 p2 p3 p4 p5 σ = some o) (sz : Nat) : k_Di l G yX11_feed wsX11_feed rm_X11_feed [.ref h, .int p1, .int p2, .int p3, .int p4, .int p5] w sz o.1 (XW G h (ux_feed σ o)) 0 0 := by
  obtain ⟨a, rfl⟩ := hw
  exact k_framei (c_X11_feed (l := l) (G := G) (sz := sz) (h_t := h) hrun) [0, 29, 30] rfl (by decide) (fun u => Nat.le_of_ble_eq_true rfl) (fun u => ⟨a, rfl⟩)
abbrev fx_stack (p1 : Int32) (p2 : Int32) (σ : k_SB) : Option (Int32 × Int32) := f_X11_stack p1 p2 (σ.1 0) (σ.1 19) (σ.2.2.1 17) (σ.2.2.1 18)
abbrev ux_stack (σ : k_SB) (o : Int32 × Int32) : k_SB := s_i σ 0 o.2
set_option maxRecDepth 100000 in
theorem lx_stack {l : Launch} {G : k_G} {h : Nat} {σ : k_SB} {w : va_W} (hw : XW G h σ w) {p1 : Int32} {p2 : Int32} {o : Int32 × Int32} (hrun : fx_stack p1 p2 σ = some o) (sz : Nat) : k_Di l G yX11_stack wsX11_stack rm_X11_stack [.ref h, .int p1, .int p2] w sz o.1 (XW G h (ux_stack σ o)) 0 0 := by
  obtain ⟨a, rfl⟩ := hw
  exact k_framei (c_X11_stack (l := l) (G := G) (sz := sz) (h_t := h) hrun) [0, 25, 26, 27] rfl (by decide) (fun u => Nat.le_of_ble_eq_true rfl) (fun u => ⟨a, rfl⟩)
abbrev fx_sum (p1 : Int32) (σ : k_SB) : Option (Int32 × Int32) := f_X11_sum p1 (σ.1 0) (σ.1 19) (σ.2.2.1 17) (σ.2.2.1 18)
abbrev ux_sum (σ : k_SB) (o : Int32 × Int32) : k_SB := s_i σ 0 o.2
set_option maxRecDepth 100000 in
theorem lx_sum {l : Launch} {G : k_G} {h : Nat} {σ : k_SB} {w : va_W} (hw : XW G h σ w) {p1 : Int32} {o : Int32 × Int32} (hrun : fx_sum p1 σ = some o) (sz : Nat) : k_Di l G yX11_sum wsX11_sum rm_X11_sum [.ref h, .int p1] w sz o.1 (XW G h (ux_sum σ o)) 0 0 := by
  obtain ⟨a, rfl⟩ := hw
  exact k_framei (c_X11_sum (l := l) (G := G) (sz := sz) (h_t := h) hrun) [0, 25, 26, 27] rfl (by decide) (fun u => Nat.le_of_ble_eq_true rfl) (fun u => ⟨a, rfl⟩)
abbrev fx_layer (p1 : Int32) (p2 : Int32) (σ : k_SB) : Option (Int32 × Int32) := f_X11_layer p1 p2 (σ.1 0) (σ.1 19) (σ.2.2.1 17) (σ.2.2.1 18)
abbrev ux_layer (σ : k_SB) (o : Int32 × Int32) : k_SB := s_i σ 0 o.2
set_option maxRecDepth 100000 in
theorem lx_layer {l : Launch} {G : k_G} {h : Nat} {σ : k_SB} {w : va_W} (hw : XW G h σ w) {p1 : Int32} {p2 : Int32} {o : Int32 × Int32} (hrun : fx_layer p1 p2 σ = some o) (sz : Nat) : k_Di l G yX11_layer wsX11_layer rm_X11_layer [.ref h, .int p1, .int p2] w sz o.1 (XW G h (ux_layer σ o)) 0 0 := by
  obtain ⟨a, rfl⟩ := hw
  exact k_framei (c_X11_layer (l := l) (G := G) (sz := sz) (h_t := h) hrun) [0, 25, 26, 27] rfl (by decide) (fun u => Nat.le_of_ble_eq_true rfl) (fun u => ⟨a, rfl⟩)
abbrev fx_hex (p1 : Int32) (p2 : Int32) (σ : k_SB) : Option (Int32 × Int32) := f_X11_hex p1 p2 (σ.1 0) (σ.1 19) (σ.2.2.1 17) (σ.2.2.1 18)
abbrev ux_hex (σ : k_SB) (o : Int32 × Int32) : k_SB := s_i σ 0 o.2
set_option maxRecDepth 100000 in
theorem lx_hex {l : Launch} {G : k_G} {h : Nat} {σ : k_SB} {w : va_W} (hw : XW G h σ w) {p1 : Int32} {p2 : Int32} {o : Int32 × Int32} (hrun : fx_hex p1 p2 σ = some o) (sz : Nat) : k_Di l G yX11_hex wsX11_hex rm_X11_hex [.ref h, .int p1, .int p2] w sz o.1 (XW G h (ux_hex σ o)) 0 0 := by
  obtain ⟨a, rfl⟩ := hw
  exact k_framei (c_X11_hex (l := l) (G := G) (sz := sz) (h_t := h) hrun) [0, 25, 26, 27] rfl (by decide) (fun u => Nat.le_of_ble_eq_true rfl) (fun u => ⟨a, rfl⟩)
abbrev fx_run (p1 : Int32) (p2 : Int32) (σ : k_SB) : Option (Int32 × Int32) := f_X11_run p1 p2 (σ.1 0) (σ.1 19) (σ.2.2.1 17) (σ.2.2.1 18)
abbrev ux_run (σ : k_SB) (o : Int32 × Int32) : k_SB := s_i σ 0 o.2
set_option maxRecDepth 100000 in
theorem lx_run {l : Launch} {G : k_G} {h : Nat} {σ : k_SB} {w : va_W} (hw : XW G h σ w) {p1 : Int32} {p2 : Int32} {o : Int32 × Int32} (hrun : fx_run p1 p2 σ = some o) (sz : Nat) : k_Di l G yX11_run wsX11_run rm_X11_run [.ref h, .int p1, .int p2] w sz o.1 (XW G h (ux_run σ o)) 0 0 := by
  obtain ⟨a, rfl⟩ := hw
  exact k_framei (c_X11_run (l := l) (G := G) (sz := sz) (h_t := h) hrun) [0, 25, 26, 27] rfl (by decide) (fun u => Nat.le_of_ble_eq_true rfl) (fun u => ⟨a, rfl⟩)
abbrev fx_agree (p1 : Int32) (p2 : Int32) (σ : k_SB) : Option (Int32 × Int32) := f_X11_agree p1 p2 (σ.1 0) (σ.1 19) (σ.2.2.1 17) (σ.2.2.1 18)
abbrev ux_agree (σ : k_SB) (o : Int32 × Int32) : k_SB := s_i σ 0 o.2
set_option maxRecDepth 100000 in
theorem lx_agree {l : Launch} {G : k_G} {h : Nat} {σ : k_SB} {w : va_W} (hw : XW G h σ w) {p1 : Int32} {p2 : Int32} {o : Int32 × Int32} (hrun : fx_agree p1 p2 σ = some o) (sz : Nat) : k_Di l G yX11_agree wsX11_agree rm_X11_agree [.ref h, .int p1, .int p2] w sz o.1 (XW G h (ux_agree σ o)) 0 0 := by
  obtain ⟨a, rfl⟩ := hw
  exact k_framei (c_X11_agree (l := l) (G := G) (sz := sz) (h_t := h) hrun) [0, 25, 26, 27] rfl (by decide) (fun u => Nat.le_of_ble_eq_true rfl) (fun u => ⟨a, rfl⟩)
abbrev fx_energy (p1 : Int32) (σ : k_SB) : Option (Int32 × Int32) := f_X11_energy p1 (σ.1 0) (σ.1 19) (σ.1 30) (σ.1 31) (σ.1 32) (σ.2.2.1 17) (σ.2.2.1 18)
abbrev ux_energy (σ : k_SB) (o : Int32 × Int32) : k_SB := s_i σ 0 o.2
set_option maxRecDepth 100000 in
theorem lx_energy {l : Launch} {G : k_G} {h : Nat} {σ : k_SB} {w : va_W} (hw : XW G h σ w) {p1 : Int32} {o : Int32 × Int32} (hrun : fx_energy p1 σ = some o) (sz : Nat) : k_Di l G yX11_energy wsX11_energy rm_X11_energy [.ref h, .int p1] w sz o.1 (XW G h (ux_energy σ o)) 0 0 := by
  obtain ⟨a, rfl⟩ := hw
  exact k_framei (c_X11_energy (l := l) (G := G) (sz := sz) (h_t := h) hrun) [0, 25, 26, 27, 31] rfl (by decide) (fun u => Nat.le_of_ble_eq_true rfl) (fun u => ⟨a, rfl⟩)
abbrev fx_calmest (σ : k_SB) : Option (Int32 × Int32) := f_X11_calmest  (σ.1 0) (σ.1 19) (σ.1 29) (σ.1 30) (σ.1 31) (σ.1 32) (σ.2.2.1 17) (σ.2.2.1 18)
abbrev ux_calmest (σ : k_SB) (o : Int32 × Int32) : k_SB := s_i σ 0 o.2
set_option maxRecDepth 100000 in
theorem lx_calmest {l : Launch} {G : k_G} {h : Nat} {σ : k_SB} {w : va_W} (hw : XW G h σ w) {o : Int32 × Int32} (hrun : fx_calmest  σ = some o) (sz : Nat) : k_Di l G yX11_calmest wsX11_calmest rm_X11_calmest [.ref h] w sz o.1 (XW G h (ux_calmest σ o)) 0 0 := by
  obtain ⟨a, rfl⟩ := hw
  exact k_framei (c_X11_calmest (l := l) (G := G) (sz := sz) (h_t := h) hrun) [0, 25, 26, 27, 31] rfl (by decide) (fun u => Nat.le_of_ble_eq_true rfl) (fun u => ⟨a, rfl⟩)
abbrev fx_out (p1 : Int32) (p2 : Int32) (σ : k_SB) : Option (Int32 × Int32 × (Nat → Int32) × (Nat → Int32)) := f_X11_out p1 p2 (σ.1 0) (σ.1 19) (σ.2.2.1 15) (σ.2.2.1 16) (σ.2.2.1 17) (σ.2.2.1 18)
abbrev ux_out (σ : k_SB) (o : Int32 × Int32 × (Nat → Int32) × (Nat → Int32)) : k_SB := s_a (s_a (s_i σ 0 o.2.1) 15 o.2.2.1) 16 o.2.2.2
set_option maxRecDepth 100000 in
theorem lx_out {l : Launch} {G : k_G} {h : Nat} {σ : k_SB} {w : va_W} (hw : XW G h σ w) {p1 : Int32} {p2 : Int32} {o : Int32 × Int32 × (Nat → Int32) × (Nat → Int32)} (hrun : fx_out p1 p2 σ = some o) (sz : Nat) : k_Di l G yX11_out wsX11_out rm_X11_out [.ref h, .int p1, .int p2] w sz o.1 (XW G h (ux_out σ o)) 0 0 := by
  obtain ⟨a, rfl⟩ := hw
  exact k_framei (c_X11_out (l := l) (G := G) (sz := sz) (h_t := h) hrun) [0, 22, 23, 24, 25, 26, 27] rfl (by decide) (fun u => Nat.le_of_ble_eq_true rfl) (fun u => ⟨(fun k => cond (Nat.beq k 23) (u.2) (cond (Nat.beq k 22) (u.1) (a k))), rfl⟩)
abbrev fx_outs (p1 : Int32) (σ : k_SB) : Option (Int32 × Int32 × (Nat → Int32) × (Nat → Int32)) := f_X11_outs p1 (σ.1 0) (σ.1 19) (σ.2.2.1 15) (σ.2.2.1 16) (σ.2.2.1 17) (σ.2.2.1 18)
abbrev ux_outs (σ : k_SB) (o : Int32 × Int32 × (Nat → Int32) × (Nat → Int32)) : k_SB := s_a (s_a (s_i σ 0 o.2.1) 15 o.2.2.1) 16 o.2.2.2
set_option maxRecDepth 100000 in
theorem lx_outs {l : Launch} {G : k_G} {h : Nat} {σ : k_SB} {w : va_W} (hw : XW G h σ w) {p1 : Int32} {o : Int32 × Int32 × (Nat → Int32) × (Nat → Int32)} (hrun : fx_outs p1 σ = some o) (sz : Nat) : k_Di l G yX11_outs wsX11_outs rm_X11_outs [.ref h, .int p1] w sz o.1 (XW G h (ux_outs σ o)) 0 0 := by
  obtain ⟨a, rfl⟩ := hw
  exact k_framei (c_X11_outs (l := l) (G := G) (sz := sz) (h_t := h) hrun) [0, 22, 23, 24, 25, 26, 27] rfl (by decide) (fun u => Nat.le_of_ble_eq_true rfl) (fun u => ⟨(fun k => cond (Nat.beq k 23) (u.2) (cond (Nat.beq k 22) (u.1) (a k))), rfl⟩)
abbrev fx_firstLine (p1 : Int32) (σ : k_SB) : Option (Int32 × Int32 × (Nat → Int32) × (Nat → Int32)) := f_X11_firstLine p1 (σ.1 0) (σ.1 19) (σ.2.2.1 15) (σ.2.2.1 16) (σ.2.2.1 17) (σ.2.2.1 18)
abbrev ux_firstLine (σ : k_SB) (o : Int32 × Int32 × (Nat → Int32) × (Nat → Int32)) : k_SB := s_a (s_a (s_i σ 0 o.2.1) 15 o.2.2.1) 16 o.2.2.2
set_option maxRecDepth 100000 in
theorem lx_firstLine {l : Launch} {G : k_G} {h : Nat} {σ : k_SB} {w : va_W} (hw : XW G h σ w) {p1 : Int32} {o : Int32 × Int32 × (Nat → Int32) × (Nat → Int32)} (hrun : fx_firstLine p1 σ = some o) (sz : Nat) : k_Di l G yX11_firstLine wsX11_firstLine rm_X11_firstLine [.ref h, .int p1] w sz o.1 (XW G h (ux_firstLine σ o)) 0 0 := by
  obtain ⟨a, rfl⟩ := hw
  exact k_framei (c_X11_firstLine (l := l) (G := G) (sz := sz) (h_t := h) hrun) [0, 22, 23, 24, 25, 26, 27] rfl (by decide) (fun u => Nat.le_of_ble_eq_true rfl) (fun u => ⟨(fun k => cond (Nat.beq k 23) (u.2) (cond (Nat.beq k 22) (u.1) (a k))), rfl⟩)
abbrev fx_sameLines (p1 : Int32) (p2 : Int32) (σ : k_SB) : Option (Int32 × Int32 × (Nat → Int32) × (Nat → Int32)) := f_X11_sameLines p1 p2 (σ.1 0) (σ.1 19) (σ.2.2.1 15) (σ.2.2.1 16) (σ.2.2.1 17) (σ.2.2.1 18)
abbrev ux_sameLines (σ : k_SB) (o : Int32 × Int32 × (Nat → Int32) × (Nat → Int32)) : k_SB := s_a (s_a (s_i σ 0 o.2.1) 15 o.2.2.1) 16 o.2.2.2
set_option maxRecDepth 100000 in
theorem lx_sameLines {l : Launch} {G : k_G} {h : Nat} {σ : k_SB} {w : va_W} (hw : XW G h σ w) {p1 : Int32} {p2 : Int32} {o : Int32 × Int32 × (Nat → Int32) × (Nat → Int32)} (hrun : fx_sameLines p1 p2 σ = some o) (sz : Nat) : k_Di l G yX11_sameLines wsX11_sameLines rm_X11_sameLines [.ref h, .int p1, .int p2] w sz o.1 (XW G h (ux_sameLines σ o)) 0 0 := by
  obtain ⟨a, rfl⟩ := hw
  exact k_framei (c_X11_sameLines (l := l) (G := G) (sz := sz) (h_t := h) hrun) [0, 22, 23, 24, 25, 26, 27] rfl (by decide) (fun u => Nat.le_of_ble_eq_true rfl) (fun u => ⟨(fun k => cond (Nat.beq k 23) (u.2) (cond (Nat.beq k 22) (u.1) (a k))), rfl⟩)
abbrev fx_ground (p1 : Int32) (σ : k_SB) : Option (Int32 × Int32 × Int32 × Int32 × (Nat → Int32)) := f_X11_ground p1 (σ.1 0) (σ.1 14) (σ.1 13) (σ.1 29) (σ.1 30) (σ.1 31) (σ.1 32) (σ.2.2.1 12)
abbrev ux_ground (σ : k_SB) (o : Int32 × Int32 × Int32 × Int32 × (Nat → Int32)) : k_SB := s_a (s_i (s_i (s_i σ 0 o.2.1) 14 o.2.2.1) 13 o.2.2.2.1) 12 o.2.2.2.2
set_option maxRecDepth 100000 in
theorem lx_ground {l : Launch} {G : k_G} {h : Nat} {σ : k_SB} {w : va_W} (hw : XW G h σ w) {p1 : Int32} {o : Int32 × Int32 × Int32 × Int32 × (Nat → Int32)} (hrun : fx_ground p1 σ = some o) (sz : Nat) : k_Di l G yX11_ground wsX11_ground rm_X11_ground [.ref h, .int p1] w sz o.1 (XW G h (ux_ground σ o)) 0 0 := by
  obtain ⟨a, rfl⟩ := hw
  exact k_framei (c_X11_ground (l := l) (G := G) (sz := sz) (h_t := h) hrun) [0, 18, 19, 31] rfl (by decide) (fun u => Nat.le_of_ble_eq_true rfl) (fun u => ⟨a, rfl⟩)
abbrev fx_groundRow (p1 : Int32) (σ : k_SB) : Option (Int32 × Int32 × Int32 × Int32 × (Nat → Int32)) := f_X11_groundRow p1 (σ.1 0) (σ.1 14) (σ.1 13) (σ.1 29) (σ.1 30) (σ.1 31) (σ.1 32) (σ.2.2.1 12)
abbrev ux_groundRow (σ : k_SB) (o : Int32 × Int32 × Int32 × Int32 × (Nat → Int32)) : k_SB := s_a (s_i (s_i (s_i σ 0 o.2.1) 14 o.2.2.1) 13 o.2.2.2.1) 12 o.2.2.2.2
set_option maxRecDepth 100000 in
theorem lx_groundRow {l : Launch} {G : k_G} {h : Nat} {σ : k_SB} {w : va_W} (hw : XW G h σ w) {p1 : Int32} {o : Int32 × Int32 × Int32 × Int32 × (Nat → Int32)} (hrun : fx_groundRow p1 σ = some o) (sz : Nat) : k_Di l G yX11_groundRow wsX11_groundRow rm_X11_groundRow [.ref h, .int p1] w sz o.1 (XW G h (ux_groundRow σ o)) 0 0 := by
  obtain ⟨a, rfl⟩ := hw
  exact k_framei (c_X11_groundRow (l := l) (G := G) (sz := sz) (h_t := h) hrun) [0, 18, 19, 31] rfl (by decide) (fun u => Nat.le_of_ble_eq_true rfl) (fun u => ⟨a, rfl⟩)
abbrev fx_groundMany (p1 : Int32) (σ : k_SB) : Option (Int32 × Int32 × Int32 × Int32 × (Nat → Int32)) := f_X11_groundMany p1 (σ.1 0) (σ.1 14) (σ.1 13) (σ.1 29) (σ.1 30) (σ.1 31) (σ.1 32) (σ.2.2.1 12)
abbrev ux_groundMany (σ : k_SB) (o : Int32 × Int32 × Int32 × Int32 × (Nat → Int32)) : k_SB := s_a (s_i (s_i (s_i σ 0 o.2.1) 14 o.2.2.1) 13 o.2.2.2.1) 12 o.2.2.2.2
set_option maxRecDepth 100000 in
theorem lx_groundMany {l : Launch} {G : k_G} {h : Nat} {σ : k_SB} {w : va_W} (hw : XW G h σ w) {p1 : Int32} {o : Int32 × Int32 × Int32 × Int32 × (Nat → Int32)} (hrun : fx_groundMany p1 σ = some o) (sz : Nat) : k_Di l G yX11_groundMany wsX11_groundMany rm_X11_groundMany [.ref h, .int p1] w sz o.1 (XW G h (ux_groundMany σ o)) 0 0 := by
  obtain ⟨a, rfl⟩ := hw
  exact k_framei (c_X11_groundMany (l := l) (G := G) (sz := sz) (h_t := h) hrun) [0, 18, 19, 31] rfl (by decide) (fun u => Nat.le_of_ble_eq_true rfl) (fun u => ⟨a, rfl⟩)
abbrev fx_groundBest (σ : k_SB) : Option (Int32 × Int32 × Int32 × Int32 × (Nat → Int32)) := f_X11_groundBest  (σ.1 0) (σ.1 14) (σ.1 13) (σ.1 29) (σ.1 30) (σ.1 31) (σ.1 32) (σ.2.2.1 12)
abbrev ux_groundBest (σ : k_SB) (o : Int32 × Int32 × Int32 × Int32 × (Nat → Int32)) : k_SB := s_a (s_i (s_i (s_i σ 0 o.2.1) 14 o.2.2.1) 13 o.2.2.2.1) 12 o.2.2.2.2
set_option maxRecDepth 100000 in
theorem lx_groundBest {l : Launch} {G : k_G} {h : Nat} {σ : k_SB} {w : va_W} (hw : XW G h σ w) {o : Int32 × Int32 × Int32 × Int32 × (Nat → Int32)} (hrun : fx_groundBest  σ = some o) (sz : Nat) : k_Di l G yX11_groundBest wsX11_groundBest rm_X11_groundBest [.ref h] w sz o.1 (XW G h (ux_groundBest σ o)) 0 0 := by
  obtain ⟨a, rfl⟩ := hw
  exact k_framei (c_X11_groundBest (l := l) (G := G) (sz := sz) (h_t := h) hrun) [0, 18, 19, 31] rfl (by decide) (fun u => Nat.le_of_ble_eq_true rfl) (fun u => ⟨a, rfl⟩)
abbrev fx_kinds (p1 : Int32) (p2 : Int32) (p3 : Int32) (σ : k_SB) : Option (Int32 × Int32) := f_X11_kinds p1 p2 p3 (σ.1 0) (σ.1 29)
abbrev ux_kinds (σ : k_SB) (o : Int32 × Int32) : k_SB := s_i σ 0 o.2
set_option maxRecDepth 100000 in
theorem lx_kinds {l : Launch} {G : k_G} {h : Nat} {σ : k_SB} {w : va_W} (hw : XW G h σ w) {p1 : Int32} {p2 : Int32} {p3 : Int32} {o : Int32 × Int32} (hrun : fx_kinds p1 p2 p3 σ = some o) (sz : Nat) : k_Di l G yX11_kinds wsX11_kinds rm_X11_kinds [.ref h, .int p1, .int p2, .int p3] w sz o.1 (XW G h (ux_kinds σ o)) 0 0 := by
  obtain ⟨a, rfl⟩ := hw
  exact k_framei (c_X11_kinds (l := l) (G := G) (sz := sz) (h_t := h) hrun) [0, 31] rfl (by decide) (fun u => Nat.le_of_ble_eq_true rfl) (fun u => ⟨a, rfl⟩)
abbrev fx_alike (p1 : Int32) (p2 : Int32) (p3 : Int32) (σ : k_SB) : Option (Int32 × Int32) := f_X11_alike p1 p2 p3 (σ.1 0) (σ.1 19) (σ.2.2.1 17) (σ.2.2.1 18)
abbrev ux_alike (σ : k_SB) (o : Int32 × Int32) : k_SB := s_i σ 0 o.2
set_option maxRecDepth 100000 in
theorem lx_alike {l : Launch} {G : k_G} {h : Nat} {σ : k_SB} {w : va_W} (hw : XW G h σ w) {p1 : Int32} {p2 : Int32} {p3 : Int32} {o : Int32 × Int32} (hrun : fx_alike p1 p2 p3 σ = some o) (sz : Nat) : k_Di l G yX11_alike wsX11_alike rm_X11_alike [.ref h, .int p1, .int p2, .int p3] w sz o.1 (XW G h (ux_alike σ o)) 0 0 := by
  obtain ⟨a, rfl⟩ := hw
  exact k_framei (c_X11_alike (l := l) (G := G) (sz := sz) (h_t := h) hrun) [0, 25, 26, 27] rfl (by decide) (fun u => Nat.le_of_ble_eq_true rfl) (fun u => ⟨a, rfl⟩)
abbrev fx_least (p1 : Int32) (p2 : Int32) (σ : k_SB) : Option (Int32 × Int32) := f_X11_least p1 p2 (σ.1 0) (σ.1 19) (σ.2.2.1 17) (σ.2.2.1 18)
abbrev ux_least (σ : k_SB) (o : Int32 × Int32) : k_SB := s_i σ 0 o.2
set_option maxRecDepth 100000 in
theorem lx_least {l : Launch} {G : k_G} {h : Nat} {σ : k_SB} {w : va_W} (hw : XW G h σ w) {p1 : Int32} {p2 : Int32} {o : Int32 × Int32} (hrun : fx_least p1 p2 σ = some o) (sz : Nat) : k_Di l G yX11_least wsX11_least rm_X11_least [.ref h, .int p1, .int p2] w sz o.1 (XW G h (ux_least σ o)) 0 0 := by
  obtain ⟨a, rfl⟩ := hw
  exact k_framei (c_X11_least (l := l) (G := G) (sz := sz) (h_t := h) hrun) [0, 25, 26, 27] rfl (by decide) (fun u => Nat.le_of_ble_eq_true rfl) (fun u => ⟨a, rfl⟩)
abbrev fx_manyAlike (p1 : Int32) (p2 : Int32) (σ : k_SB) : Option (Int32 × Int32) := f_X11_manyAlike p1 p2 (σ.1 0) (σ.1 19) (σ.2.2.1 17) (σ.2.2.1 18)
abbrev ux_manyAlike (σ : k_SB) (o : Int32 × Int32) : k_SB := s_i σ 0 o.2
set_option maxRecDepth 100000 in
theorem lx_manyAlike {l : Launch} {G : k_G} {h : Nat} {σ : k_SB} {w : va_W} (hw : XW G h σ w) {p1 : Int32} {p2 : Int32} {o : Int32 × Int32} (hrun : fx_manyAlike p1 p2 σ = some o) (sz : Nat) : k_Di l G yX11_manyAlike wsX11_manyAlike rm_X11_manyAlike [.ref h, .int p1, .int p2] w sz o.1 (XW G h (ux_manyAlike σ o)) 0 0 := by
  obtain ⟨a, rfl⟩ := hw
  exact k_framei (c_X11_manyAlike (l := l) (G := G) (sz := sz) (h_t := h) hrun) [0, 25, 26, 27] rfl (by decide) (fun u => Nat.le_of_ble_eq_true rfl) (fun u => ⟨a, rfl⟩)
abbrev fx_slips (p1 : Int32) (p2 : Int32) (p3 : Int32) (σ : k_SB) : Option (Int32 × Int32) := f_X11_slips p1 p2 p3 (σ.1 0) (σ.1 19) (σ.2.2.1 17) (σ.2.2.1 18)
abbrev ux_slips (σ : k_SB) (o : Int32 × Int32) : k_SB := s_i σ 0 o.2
set_option maxRecDepth 100000 in
theorem lx_slips {l : Launch} {G : k_G} {h : Nat} {σ : k_SB} {w : va_W} (hw : XW G h σ w) {p1 : Int32} {p2 : Int32} {p3 : Int32} {o : Int32 × Int32} (hrun : fx_slips p1 p2 p3 σ = some o) (sz : Nat) : k_Di l G yX11_slips wsX11_slips rm_X11_slips [.ref h, .int p1, .int p2, .int p3] w sz o.1 (XW G h (ux_slips σ o)) 0 0 := by
  obtain ⟨a, rfl⟩ := hw
  exact k_framei (c_X11_slips (l := l) (G := G) (sz := sz) (h_t := h) hrun) [0, 25, 26, 27] rfl (by decide) (fun u => Nat.le_of_ble_eq_true rfl) (fun u => ⟨a, rfl⟩)
abbrev fx_slipEnergy (p1 : Int32) (p2 : Int32) (σ : k_SB) : Option (Int32 × Int32) := f_X11_slipEnergy p1 p2 (σ.1 0) (σ.1 19) (σ.1 30) (σ.1 31) (σ.1 32) (σ.2.2.1 17) (σ.2.2.1 18)
abbrev ux_slipEnergy (σ : k_SB) (o : Int32 × Int32) : k_SB := s_i σ 0 o.2
set_option maxRecDepth 100000 in
theorem lx_slipEnergy {l : Launch} {G : k_G} {h : Nat} {σ : k_SB} {w : va_W} (hw : XW G h σ w) {p1 : Int32} {p2 : Int32} {o : Int32 × Int32} (hrun : fx_slipEnergy p1 p2 σ = some o) (sz : Nat) : k_Di l G yX11_slipEnergy wsX11_slipEnergy rm_X11_slipEnergy [.ref h, .int p1, .int p2] w sz o.1 (XW G h (ux_slipEnergy σ o)) 0 0 := by
  obtain ⟨a, rfl⟩ := hw
  exact k_framei (c_X11_slipEnergy (l := l) (G := G) (sz := sz) (h_t := h) hrun) [0, 25, 26, 27, 31] rfl (by decide) (fun u => Nat.le_of_ble_eq_true rfl) (fun u => ⟨a, rfl⟩)
abbrev fx_weakest (p1 : Int32) (σ : k_SB) : Option (Int32 × Int32) := f_X11_weakest p1 (σ.1 0) (σ.1 19) (σ.1 30) (σ.1 31) (σ.1 32) (σ.2.2.1 17) (σ.2.2.1 18)
abbrev ux_weakest (σ : k_SB) (o : Int32 × Int32) : k_SB := s_i σ 0 o.2
set_option maxRecDepth 100000 in
theorem lx_weakest {l : Launch} {G : k_G} {h : Nat} {σ : k_SB} {w : va_W} (hw : XW G h σ w) {p1 : Int32} {o : Int32 × Int32} (hrun : fx_weakest p1 σ = some o) (sz : Nat) : k_Di l G yX11_weakest wsX11_weakest rm_X11_weakest [.ref h, .int p1] w sz o.1 (XW G h (ux_weakest σ o)) 0 0 := by
  obtain ⟨a, rfl⟩ := hw
  exact k_framei (c_X11_weakest (l := l) (G := G) (sz := sz) (h_t := h) hrun) [0, 25, 26, 27, 31] rfl (by decide) (fun u => Nat.le_of_ble_eq_true rfl) (fun u => ⟨a, rfl⟩)
abbrev fx_relax (p1 : Int32) (σ : k_SB) : Option (Int32 × Int32 × Int32 × Int32) := f_X11_relax p1 (σ.1 0) (σ.1 17) (σ.1 18) (σ.1 19) (σ.1 30) (σ.1 31) (σ.1 32) (σ.2.2.1 17) (σ.2.2.1 18)
abbrev ux_relax (σ : k_SB) (o : Int32 × Int32 × Int32 × Int32) : k_SB := s_i (s_i (s_i σ 0 o.2.1) 17 o.2.2.1) 18 o.2.2.2
set_option maxRecDepth 100000 in
theorem lx_relax {l : Launch} {G : k_G} {h : Nat} {σ : k_SB} {w : va_W} (hw : XW G h σ w) {p1 : Int32} {o : Int32 × Int32 × Int32 × Int32} (hrun : fx_relax p1 σ = some o) (sz : Nat) : k_Di l G yX11_relax wsX11_relax rm_X11_relax [.ref h, .int p1] w sz o.1 (XW G h (ux_relax σ o)) 0 0 := by
  obtain ⟨a, rfl⟩ := hw
  exact k_framei (c_X11_relax (l := l) (G := G) (sz := sz) (h_t := h) hrun) [0, 18, 25, 26, 27, 31] rfl (by decide) (fun u => Nat.le_of_ble_eq_true rfl) (fun u => ⟨a, rfl⟩)
abbrev fx_relaxed (p1 : Int32) (σ : k_SB) : Option (Int32 × Int32 × Int32 × Int32) := f_X11_relaxed p1 (σ.1 0) (σ.1 17) (σ.1 18) (σ.1 19) (σ.1 30) (σ.1 31) (σ.1 32) (σ.2.2.1 17) (σ.2.2.1 18)
abbrev ux_relaxed (σ : k_SB) (o : Int32 × Int32 × Int32 × Int32) : k_SB := s_i (s_i (s_i σ 0 o.2.1) 17 o.2.2.1) 18 o.2.2.2
set_option maxRecDepth 100000 in
theorem lx_relaxed {l : Launch} {G : k_G} {h : Nat} {σ : k_SB} {w : va_W} (hw : XW G h σ w) {p1 : Int32} {o : Int32 × Int32 × Int32 × Int32} (hrun : fx_relaxed p1 σ = some o) (sz : Nat) : k_Di l G yX11_relaxed wsX11_relaxed rm_X11_relaxed [.ref h, .int p1] w sz o.1 (XW G h (ux_relaxed σ o)) 0 0 := by
  obtain ⟨a, rfl⟩ := hw
  exact k_framei (c_X11_relaxed (l := l) (G := G) (sz := sz) (h_t := h) hrun) [0, 18, 25, 26, 27, 31] rfl (by decide) (fun u => Nat.le_of_ble_eq_true rfl) (fun u => ⟨a, rfl⟩)
abbrev fx_pass (p1 : Int32) (p2 : Int32) (σ : k_SB) : Option (Int32 × Int32 × Int32 × Int32 × Int32 × Int32 × (Nat → Int32) × (Nat → Int32) × (Nat → Int32)) := f_X11_pass p1 p2 (σ.1 0) (σ.1 16) (σ.1 15) (σ.1 14) (σ.1 13) (σ.1 19) (σ.1 30) (σ.1 31) (σ.1 32) (σ.2.2.1 12) (σ.2.2.1 13) (σ.2.2.1 14) (σ.2.2.1 17) (σ.2.2.1 18)
abbrev ux_pass (σ : k_SB) (o : Int32 × Int32 × Int32 × Int32 × Int32 × Int32 × (Nat → Int32) × (Nat → Int32) × (Nat → Int32)) : k_SB := s_a (s_a (s_a (s_i (s_i (s_i (s_i (s_i σ 0 o.2.1) 16 o.2.2.1) 15 o.2.2.2.1) 14 o.2.2.2.2.1) 13 o.2.2.2.2.2.1) 12 o.2.2.2.2.2.2.1) 13 o.2.2.2.2.2.2.2.1) 14 o.2.2.2.2.2.2.2.2
set_option maxRecDepth 100000 in
theorem lx_pass {l : Launch} {G : k_G} {h : Nat} {σ : k_SB} {w : va_W} (hw : XW G h σ w) {p1 : Int32} {p2 : Int32} {o : Int32 × Int32 × Int32 × Int32 × Int32 × Int32 × (Nat → Int32) × (Nat → Int32) × (Nat → Int32)} (hrun : fx_pass p1 p2 σ = some o) (sz : Nat) : k_Di l G yX11_pass wsX11_pass rm_X11_pass [.ref h, .int p1, .int p2] w sz o.1 (XW G h (ux_pass σ o)) 0 0 := by
  obtain ⟨a, rfl⟩ := hw
  exact k_framei (c_X11_pass (l := l) (G := G) (sz := sz) (h_t := h) hrun) [0, 18, 19, 20, 21, 25, 26, 27, 31] rfl (by decide) (fun u => Nat.le_of_ble_eq_true rfl) (fun u => ⟨a, rfl⟩)
abbrev fx_valley (p1 : Int32) (σ : k_SB) : Option (Int32 × Int32 × Int32 × Int32 × Int32 × Int32 × (Nat → Int32) × (Nat → Int32) × (Nat → Int32)) := f_X11_valley p1 (σ.1 0) (σ.1 16) (σ.1 15) (σ.1 14) (σ.1 13) (σ.1 19) (σ.1 30) (σ.1 31) (σ.1 32) (σ.2.2.1 12) (σ.2.2.1 13) (σ.2.2.1 14) (σ.2.2.1 17) (σ.2.2.1 18)
abbrev ux_valley (σ : k_SB) (o : Int32 × Int32 × Int32 × Int32 × Int32 × Int32 × (Nat → Int32) × (Nat → Int32) × (Nat → Int32)) : k_SB := s_a (s_a (s_a (s_i (s_i (s_i (s_i (s_i σ 0 o.2.1) 16 o.2.2.1) 15 o.2.2.2.1) 14 o.2.2.2.2.1) 13 o.2.2.2.2.2.1) 12 o.2.2.2.2.2.2.1) 13 o.2.2.2.2.2.2.2.1) 14 o.2.2.2.2.2.2.2.2
set_option maxRecDepth 100000 in
theorem lx_valley {l : Launch} {G : k_G} {h : Nat} {σ : k_SB} {w : va_W} (hw : XW G h σ w) {p1 : Int32} {o : Int32 × Int32 × Int32 × Int32 × Int32 × Int32 × (Nat → Int32) × (Nat → Int32) × (Nat → Int32)} (hrun : fx_valley p1 σ = some o) (sz : Nat) : k_Di l G yX11_valley wsX11_valley rm_X11_valley [.ref h, .int p1] w sz o.1 (XW G h (ux_valley σ o)) 0 0 := by
  obtain ⟨a, rfl⟩ := hw
  exact k_framei (c_X11_valley (l := l) (G := G) (sz := sz) (h_t := h) hrun) [0, 18, 19, 20, 21, 25, 26, 27, 31] rfl (by decide) (fun u => Nat.le_of_ble_eq_true rfl) (fun u => ⟨a, rfl⟩)
abbrev fx_faultEnergy (p1 : Int32) (p2 : Int32) (σ : k_SB) : Option (Int32 × Int32) := f_X11_faultEnergy p1 p2 (σ.1 0) (σ.1 19) (σ.1 30) (σ.1 31) (σ.1 32) (σ.2.2.1 17) (σ.2.2.1 18)
abbrev ux_faultEnergy (σ : k_SB) (o : Int32 × Int32) : k_SB := s_i σ 0 o.2
set_option maxRecDepth 100000 in
theorem lx_faultEnergy {l : Launch} {G : k_G} {h : Nat} {σ : k_SB} {w : va_W} (hw : XW G h σ w) {p1 : Int32} {p2 : Int32} {o : Int32 × Int32} (hrun : fx_faultEnergy p1 p2 σ = some o) (sz : Nat) : k_Di l G yX11_faultEnergy wsX11_faultEnergy rm_X11_faultEnergy [.ref h, .int p1, .int p2] w sz o.1 (XW G h (ux_faultEnergy σ o)) 0 0 := by
  obtain ⟨a, rfl⟩ := hw
  exact k_framei (c_X11_faultEnergy (l := l) (G := G) (sz := sz) (h_t := h) hrun) [0, 25, 26, 27, 31] rfl (by decide) (fun u => Nat.le_of_ble_eq_true rfl) (fun u => ⟨a, rfl⟩)
abbrev fx_bestFault (p1 : Int32) (σ : k_SB) : Option (Int32 × Int32) := f_X11_bestFault p1 (σ.1 0) (σ.1 19) (σ.1 30) (σ.1 31) (σ.1 32) (σ.2.2.1 17) (σ.2.2.1 18)
abbrev ux_bestFault (σ : k_SB) (o : Int32 × Int32) : k_SB := s_i σ 0 o.2
set_option maxRecDepth 100000 in
theorem lx_bestFault {l : Launch} {G : k_G} {h : Nat} {σ : k_SB} {w : va_W} (hw : XW G h σ w) {p1 : Int32} {o : Int32 × Int32} (hrun : fx_bestFault p1 σ = some o) (sz : Nat) : k_Di l G yX11_bestFault wsX11_bestFault rm_X11_bestFault [.ref h, .int p1] w sz o.1 (XW G h (ux_bestFault σ o)) 0 0 := by
  obtain ⟨a, rfl⟩ := hw
  exact k_framei (c_X11_bestFault (l := l) (G := G) (sz := sz) (h_t := h) hrun) [0, 25, 26, 27, 31] rfl (by decide) (fun u => Nat.le_of_ble_eq_true rfl) (fun u => ⟨a, rfl⟩)
abbrev fx_differs (p1 : Int32) (p2 : Int32) (σ : k_SB) : Option (Int32 × Int32) := f_X11_differs p1 p2 (σ.1 0) (σ.1 19) (σ.2.2.1 17) (σ.2.2.1 18)
abbrev ux_differs (σ : k_SB) (o : Int32 × Int32) : k_SB := s_i σ 0 o.2
set_option maxRecDepth 100000 in
theorem lx_differs {l : Launch} {G : k_G} {h : Nat} {σ : k_SB} {w : va_W} (hw : XW G h σ w) {p1 : Int32} {p2 : Int32} {o : Int32 × Int32} (hrun : fx_differs p1 p2 σ = some o) (sz : Nat) : k_Di l G yX11_differs wsX11_differs rm_X11_differs [.ref h, .int p1, .int p2] w sz o.1 (XW G h (ux_differs σ o)) 0 0 := by
  obtain ⟨a, rfl⟩ := hw
  exact k_framei (c_X11_differs (l := l) (G := G) (sz := sz) (h_t := h) hrun) [0, 25, 26, 27] rfl (by decide) (fun u => Nat.le_of_ble_eq_true rfl) (fun u => ⟨a, rfl⟩)
abbrev fx_fits (σ : k_SB) : Option (Int32 × Int32) := f_X11_fits  (σ.1 0) (σ.1 35) (σ.1 29) (σ.1 34) (σ.2.2.1 20) (σ.2.2.1 21) (σ.2.2.1 22) (σ.2.2.1 23) (σ.2.2.1 24) (σ.2.2.1 25) (σ.2.2.1 26)
abbrev ux_fits (σ : k_SB) (o : Int32 × Int32) : k_SB := s_i σ 0 o.2
set_option maxRecDepth 100000 in
theorem lx_fits {l : Launch} {G : k_G} {h : Nat} {σ : k_SB} {w : va_W} (hw : XW G h σ w) {o : Int32 × Int32} (hrun : fx_fits  σ = some o) (sz : Nat) : k_Di l G yX11_fits wsX11_fits rm_X11_fits [.ref h] w sz o.1 (XW G h (ux_fits σ o)) 0 0 := by
  obtain ⟨a, rfl⟩ := hw
  exact k_framei (c_X11_fits (l := l) (G := G) (sz := sz) (h_t := h) hrun) [0, 31, 32, 33, 34, 36, 37, 38, 39, 40] rfl (by decide) (fun u => Nat.le_of_ble_eq_true rfl) (fun u => ⟨a, rfl⟩)
abbrev fx_fitAt (p1 : Int32) (σ : k_SB) : Option (Int32 × Int32) := f_X11_fitAt p1 (σ.1 0) (σ.1 35) (σ.1 29) (σ.1 34) (σ.2.2.1 20) (σ.2.2.1 21) (σ.2.2.1 22) (σ.2.2.1 23) (σ.2.2.1 24) (σ.2.2.1 25) (σ.2.2.1 26)
abbrev ux_fitAt (σ : k_SB) (o : Int32 × Int32) : k_SB := s_i σ 0 o.2
set_option maxRecDepth 100000 in
theorem lx_fitAt {l : Launch} {G : k_G} {h : Nat} {σ : k_SB} {w : va_W} (hw : XW G h σ w) {p1 : Int32} {o : Int32 × Int32} (hrun : fx_fitAt p1 σ = some o) (sz : Nat) : k_Di l G yX11_fitAt wsX11_fitAt rm_X11_fitAt [.ref h, .int p1] w sz o.1 (XW G h (ux_fitAt σ o)) 0 0 := by
  obtain ⟨a, rfl⟩ := hw
  exact k_framei (c_X11_fitAt (l := l) (G := G) (sz := sz) (h_t := h) hrun) [0, 31, 32, 33, 34, 36, 37, 38, 39, 40] rfl (by decide) (fun u => Nat.le_of_ble_eq_true rfl) (fun u => ⟨a, rfl⟩)
abbrev fx_could (σ : k_SB) : Option (Int32 × Int32) := f_X11_could  (σ.1 0) (σ.1 35) (σ.1 29) (σ.1 34) (σ.2.2.1 20) (σ.2.2.1 21) (σ.2.2.1 22) (σ.2.2.1 23) (σ.2.2.1 24) (σ.2.2.1 25) (σ.2.2.1 26)
abbrev ux_could (σ : k_SB) (o : Int32 × Int32) : k_SB := s_i σ 0 o.2
set_option maxRecDepth 100000 in
theorem lx_could {l : Launch} {G : k_G} {h : Nat} {σ : k_SB} {w : va_W} (hw : XW G h σ w) {o : Int32 × Int32} (hrun : fx_could  σ = some o) (sz : Nat) : k_Di l G yX11_could wsX11_could rm_X11_could [.ref h] w sz o.1 (XW G h (ux_could σ o)) 0 0 := by
  obtain ⟨a, rfl⟩ := hw
  exact k_framei (c_X11_could (l := l) (G := G) (sz := sz) (h_t := h) hrun) [0, 31, 32, 33, 34, 36, 37, 38, 39, 40] rfl (by decide) (fun u => Nat.le_of_ble_eq_true rfl) (fun u => ⟨a, rfl⟩)
abbrev fx_surely (σ : k_SB) : Option (Int32 × Int32) := f_X11_surely  (σ.1 0) (σ.1 35) (σ.1 29) (σ.1 34) (σ.2.2.1 20) (σ.2.2.1 21) (σ.2.2.1 22) (σ.2.2.1 23) (σ.2.2.1 24) (σ.2.2.1 25) (σ.2.2.1 26)
abbrev ux_surely (σ : k_SB) (o : Int32 × Int32) : k_SB := s_i σ 0 o.2
set_option maxRecDepth 100000 in
theorem lx_surely {l : Launch} {G : k_G} {h : Nat} {σ : k_SB} {w : va_W} (hw : XW G h σ w) {o : Int32 × Int32} (hrun : fx_surely  σ = some o) (sz : Nat) : k_Di l G yX11_surely wsX11_surely rm_X11_surely [.ref h] w sz o.1 (XW G h (ux_surely σ o)) 0 0 := by
  obtain ⟨a, rfl⟩ := hw
  exact k_framei (c_X11_surely (l := l) (G := G) (sz := sz) (h_t := h) hrun) [0, 31, 32, 33, 34, 36, 37, 38, 39, 40] rfl (by decide) (fun u => Nat.le_of_ble_eq_true rfl) (fun u => ⟨a, rfl⟩)
abbrev fx_ask (σ : k_SB) : Option (Int32 × Int32) := f_X11_ask  (σ.1 0) (σ.1 35) (σ.1 29) (σ.1 34) (σ.2.2.1 20) (σ.2.2.1 21) (σ.2.2.1 22) (σ.2.2.1 23) (σ.2.2.1 24) (σ.2.2.1 25) (σ.2.2.1 26)
abbrev ux_ask (σ : k_SB) (o : Int32 × Int32) : k_SB := s_i σ 0 o.2
set_option maxRecDepth 100000 in
theorem lx_ask {l : Launch} {G : k_G} {h : Nat} {σ : k_SB} {w : va_W} (hw : XW G h σ w) {o : Int32 × Int32} (hrun : fx_ask  σ = some o) (sz : Nat) : k_Di l G yX11_ask wsX11_ask rm_X11_ask [.ref h] w sz o.1 (XW G h (ux_ask σ o)) 0 0 := by
  obtain ⟨a, rfl⟩ := hw
  exact k_framei (c_X11_ask (l := l) (G := G) (sz := sz) (h_t := h) hrun) [0, 31, 32, 33, 34, 36, 37, 38, 39, 40] rfl (by decide) (fun u => Nat.le_of_ble_eq_true rfl) (fun u => ⟨a, rfl⟩)
abbrev fx_askLeaves (σ : k_SB) : Option (Int32 × Int32) := f_X11_askLeaves  (σ.1 0) (σ.1 35) (σ.1 29) (σ.1 34) (σ.2.2.1 20) (σ.2.2.1 21) (σ.2.2.1 22) (σ.2.2.1 23) (σ.2.2.1 24) (σ.2.2.1 25) (σ.2.2.1 26)
abbrev ux_askLeaves (σ : k_SB) (o : Int32 × Int32) : k_SB := s_i σ 0 o.2
set_option maxRecDepth 100000 in
theorem lx_askLeaves {l : Launch} {G : k_G} {h : Nat} {σ : k_SB} {w : va_W} (hw : XW G h σ w) {o : Int32 × Int32} (hrun : fx_askLeaves  σ = some o) (sz : Nat) : k_Di l G yX11_askLeaves wsX11_askLeaves rm_X11_askLeaves [.ref h] w sz o.1 (XW G h (ux_askLeaves σ o)) 0 0 := by
  obtain ⟨a, rfl⟩ := hw
  exact k_framei (c_X11_askLeaves (l := l) (G := G) (sz := sz) (h_t := h) hrun) [0, 31, 32, 33, 34, 36, 37, 38, 39, 40] rfl (by decide) (fun u => Nat.le_of_ble_eq_true rfl) (fun u => ⟨a, rfl⟩)
abbrev fx_judge (σ : k_SB) : Option (Int32 × Int32) := f_X11_judge  (σ.1 0) (σ.1 35) (σ.1 29) (σ.1 34) (σ.2.2.1 20) (σ.2.2.1 21) (σ.2.2.1 22) (σ.2.2.1 23) (σ.2.2.1 24) (σ.2.2.1 25) (σ.2.2.1 26)
abbrev ux_judge (σ : k_SB) (o : Int32 × Int32) : k_SB := s_i σ 0 o.2
set_option maxRecDepth 100000 in
theorem lx_judge {l : Launch} {G : k_G} {h : Nat} {σ : k_SB} {w : va_W} (hw : XW G h σ w) {o : Int32 × Int32} (hrun : fx_judge  σ = some o) (sz : Nat) : k_Di l G yX11_judge wsX11_judge rm_X11_judge [.ref h] w sz o.1 (XW G h (ux_judge σ o)) 0 0 := by
  obtain ⟨a, rfl⟩ := hw
  exact k_framei (c_X11_judge (l := l) (G := G) (sz := sz) (h_t := h) hrun) [0, 31, 32, 33, 34, 36, 37, 38, 39, 40] rfl (by decide) (fun u => Nat.le_of_ble_eq_true rfl) (fun u => ⟨a, rfl⟩)
abbrev fx_odds (p1 : Int32) (p2 : Int32) (p3 : Int32) (σ : k_SB) : Option (Int64 × Int32) := f_X11_odds p1 p2 p3 (σ.1 0) (σ.1 29) (σ.1 33)
abbrev ux_odds (σ : k_SB) (o : Int64 × Int32) : k_SB := s_i σ 0 o.2
set_option maxRecDepth 100000 in
theorem lx_odds {l : Launch} {G : k_G} {h : Nat} {σ : k_SB} {w : va_W} (hw : XW G h σ w) {p1 : Int32} {p2 : Int32} {p3 : Int32} {o : Int64 × Int32} (hrun : fx_odds p1 p2 p3 σ = some o) (sz : Nat) : k_Dl l G yX11_odds wsX11_odds rm_X11_odds [.ref h, .int p1, .int p2, .int p3] w sz o.1 (XW G h (ux_odds σ o)) 0 0 := by
  obtain ⟨a, rfl⟩ := hw
  exact k_framel (c_X11_odds (l := l) (G := G) (sz := sz) (h_t := h) hrun) [0, 31] rfl (by decide) (fun u => Nat.le_of_ble_eq_true rfl) (fun u => ⟨a, rfl⟩)
abbrev fx_meanSum (p1 : Int32) (p2 : Int32) (σ : k_SB) : Option (Int64 × Int32) := f_X11_meanSum p1 p2 (σ.1 0) (σ.1 29) (σ.1 33)
abbrev ux_meanSum (σ : k_SB) (o : Int64 × Int32) : k_SB := s_i σ 0 o.2
set_option maxRecDepth 100000 in
theorem lx_meanSum {l : Launch} {G : k_G} {h : Nat} {σ : k_SB} {w : va_W} (hw : XW G h σ w) {p1 : Int32} {p2 : Int32} {o : Int64 × Int32} (hrun : fx_meanSum p1 p2 σ = some o) (sz : Nat) : k_Dl l G yX11_meanSum wsX11_meanSum rm_X11_meanSum [.ref h, .int p1, .int p2] w sz o.1 (XW G h (ux_meanSum σ o)) 0 0 := by
  obtain ⟨a, rfl⟩ := hw
  exact k_framel (c_X11_meanSum (l := l) (G := G) (sz := sz) (h_t := h) hrun) [0, 31] rfl (by decide) (fun u => Nat.le_of_ble_eq_true rfl) (fun u => ⟨a, rfl⟩)
abbrev fx_grown (p1 : Int32) (p2 : Int32) (σ : k_SB) : Option (Int32 × Int32) := f_X11_grown p1 p2 (σ.1 0) (σ.1 29) (σ.1 33)
abbrev ux_grown (σ : k_SB) (o : Int32 × Int32) : k_SB := s_i σ 0 o.2
set_option maxRecDepth 100000 in
theorem lx_grown {l : Launch} {G : k_G} {h : Nat} {σ : k_SB} {w : va_W} (hw : XW G h σ w) {p1 : Int32} {p2 : Int32} {o : Int32 × Int32} (hrun : fx_grown p1 p2 σ = some o) (sz : Nat) : k_Di l G yX11_grown wsX11_grown rm_X11_grown [.ref h, .int p1, .int p2] w sz o.1 (XW G h (ux_grown σ o)) 0 0 := by
  obtain ⟨a, rfl⟩ := hw
  exact k_framei (c_X11_grown (l := l) (G := G) (sz := sz) (h_t := h) hrun) [0, 31] rfl (by decide) (fun u => Nat.le_of_ble_eq_true rfl) (fun u => ⟨a, rfl⟩)
abbrev fx_longestRun (p1 : Int32) (p2 : Int32) (σ : k_SB) : Option (Int32 × Int32) := f_X11_longestRun p1 p2 (σ.1 0) (σ.1 29) (σ.1 33)
abbrev ux_longestRun (σ : k_SB) (o : Int32 × Int32) : k_SB := s_i σ 0 o.2
set_option maxRecDepth 100000 in
theorem lx_longestRun {l : Launch} {G : k_G} {h : Nat} {σ : k_SB} {w : va_W} (hw : XW G h σ w) {p1 : Int32} {p2 : Int32} {o : Int32 × Int32} (hrun : fx_longestRun p1 p2 σ = some o) (sz : Nat) : k_Di l G yX11_longestRun wsX11_longestRun rm_X11_longestRun [.ref h, .int p1, .int p2] w sz o.1 (XW G h (ux_longestRun σ o)) 0 0 := by
  obtain ⟨a, rfl⟩ := hw
  exact k_framei (c_X11_longestRun (l := l) (G := G) (sz := sz) (h_t := h) hrun) [0, 31] rfl (by decide) (fun u => Nat.le_of_ble_eq_true rfl) (fun u => ⟨a, rfl⟩)
abbrev fx_slip (p1 : Int32) (p2 : Int32) (σ : k_SB) : Option (Int32 × Int32 × Int32 × (Nat → Int32) × (Nat → Int32) × (Nat → Int32) × (Nat → Int32) × (Nat → Int32)) := f_X11_slip p1 p2 (σ.1 0) (σ.1 3) (σ.1 19) (σ.2.2.1 0) (σ.2.2.1 1) (σ.2.2.1 2) (σ.2.2.1 17) (σ.2.2.1 18)
abbrev ux_slip (σ : k_SB) (o : Int32 × Int32 × Int32 × (Nat → Int32) × (Nat → Int32) × (Nat → Int32) × (Nat → Int32) × (Nat → Int32)) : k_SB := s_a (s_a (s_a (s_a (s_a (s_i (s_i σ 0 o.2.1) 3 o.2.2.1) 0 o.2.2.2.1) 1 o.2.2.2.2.1) 2 o.2.2.2.2.2.1) 17 o.2.2.2.2.2.2.1) 18 o.2.2.2.2.2.2.2
set_option maxRecDepth 100000 in
theorem lx_slip {l : Launch} {G : k_G} {h : Nat} {σ : k_SB} {w : va_W} (hw : XW G h σ w) {p1 : Int32} {p2 : Int32} {o : Int32 × Int32 × Int32 × (Nat → Int32) × (Nat → Int32) × (Nat → Int32) × (Nat → Int32) × (Nat → Int32)} (hrun : fx_slip p1 p2 σ = some o) (sz : Nat) : k_Di l G yX11_slip wsX11_slip rm_X11_slip [.ref h, .int p1, .int p2] w sz o.1 (XW G h (ux_slip σ o)) 0 0 := by
  obtain ⟨a, rfl⟩ := hw
  exact k_framei (c_X11_slip (l := l) (G := G) (sz := sz) (h_t := h) hrun) [0, 1, 2, 3, 4, 25, 26, 27] rfl (by decide) (fun u => Nat.le_of_ble_eq_true rfl) (fun u => ⟨a, rfl⟩)
abbrev fx_turn (p1 : Int32) (σ : k_SB) : Option (Int32 × Int32 × Int32 × (Nat → Int32) × (Nat → Int32) × (Nat → Int32) × (Nat → Int32) × (Nat → Int32)) := f_X11_turn p1 (σ.1 0) (σ.1 3) (σ.1 19) (σ.2.2.1 0) (σ.2.2.1 1) (σ.2.2.1 2) (σ.2.2.1 17) (σ.2.2.1 18)
abbrev ux_turn (σ : k_SB) (o : Int32 × Int32 × Int32 × (Nat → Int32) × (Nat → Int32) × (Nat → Int32) × (Nat → Int32) × (Nat → Int32)) : k_SB := s_a (s_a (s_a (s_a (s_a (s_i (s_i σ 0 o.2.1) 3 o.2.2.1) 0 o.2.2.2.1) 1 o.2.2.2.2.1) 2 o.2.2.2.2.2.1) 17 o.2.2.2.2.2.2.1) 18 o.2.2.2.2.2.2.2
set_option maxRecDepth 100000 in
theorem lx_turn {l : Launch} {G : k_G} {h : Nat} {σ : k_SB} {w : va_W} (hw : XW G h σ w) {p1 : Int32} {o : Int32 × Int32 × Int32 × (Nat → Int32) × (Nat → Int32) × (Nat → Int32) × (Nat → Int32) × (Nat → Int32)} (hrun : fx_turn p1 σ = some o) (sz : Nat) : k_Di l G yX11_turn wsX11_turn rm_X11_turn [.ref h, .int p1] w sz o.1 (XW G h (ux_turn σ o)) 0 0 := by
  obtain ⟨a, rfl⟩ := hw
  exact k_framei (c_X11_turn (l := l) (G := G) (sz := sz) (h_t := h) hrun) [0, 1, 2, 3, 4, 25, 26, 27] rfl (by decide) (fun u => Nat.le_of_ble_eq_true rfl) (fun u => ⟨a, rfl⟩)
abbrev fx_twin (p1 : Int32) (σ : k_SB) : Option (Int32 × Int32 × Int32 × (Nat → Int32) × (Nat → Int32) × (Nat → Int32) × (Nat → Int32) × (Nat → Int32)) := f_X11_twin p1 (σ.1 0) (σ.1 3) (σ.1 19) (σ.2.2.1 0) (σ.2.2.1 1) (σ.2.2.1 2) (σ.2.2.1 17) (σ.2.2.1 18)
abbrev ux_twin (σ : k_SB) (o : Int32 × Int32 × Int32 × (Nat → Int32) × (Nat → Int32) × (Nat → Int32) × (Nat → Int32) × (Nat → Int32)) : k_SB := s_a (s_a (s_a (s_a (s_a (s_i (s_i σ 0 o.2.1) 3 o.2.2.1) 0 o.2.2.2.1) 1 o.2.2.2.2.1) 2 o.2.2.2.2.2.1) 17 o.2.2.2.2.2.2.1) 18 o.2.2.2.2.2.2.2
set_option maxRecDepth 100000 in
theorem lx_twin {l : Launch} {G : k_G} {h : Nat} {σ : k_SB} {w : va_W} (hw : XW G h σ w) {p1 : Int32} {o : Int32 × Int32 × Int32 × (Nat → Int32) × (Nat → Int32) × (Nat → Int32) × (Nat → Int32) × (Nat → Int32)} (hrun : fx_twin p1 σ = some o) (sz : Nat) : k_Di l G yX11_twin wsX11_twin rm_X11_twin [.ref h, .int p1] w sz o.1 (XW G h (ux_twin σ o)) 0 0 := by
  obtain ⟨a, rfl⟩ := hw
  exact k_framei (c_X11_twin (l := l) (G := G) (sz := sz) (h_t := h) hrun) [0, 1, 2, 3, 4, 25, 26, 27] rfl (by decide) (fun u => Nat.le_of_ble_eq_true rfl) (fun u => ⟨a, rfl⟩)
abbrev fx_grow (p1 : Int32) (p2 : Int32) (σ : k_SB) : Option (Int32 × Int32 × Int32 × (Nat → Int32) × (Nat → Int32) × (Nat → Int32) × (Nat → Int32) × (Nat → Int32)) := f_X11_grow p1 p2 (σ.1 0) (σ.1 3) (σ.1 19) (σ.2.2.1 0) (σ.2.2.1 1) (σ.2.2.1 2) (σ.2.2.1 17) (σ.2.2.1 18)
abbrev ux_grow (σ : k_SB) (o : Int32 × Int32 × Int32 × (Nat → Int32) × (Nat → Int32) × (Nat → Int32) × (Nat → Int32) × (Nat → Int32)) : k_SB := s_a (s_a (s_a (s_a (s_a (s_i (s_i σ 0 o.2.1) 3 o.2.2.1) 0 o.2.2.2.1) 1 o.2.2.2.2.1) 2 o.2.2.2.2.2.1) 17 o.2.2.2.2.2.2.1) 18 o.2.2.2.2.2.2.2
set_option maxRecDepth 100000 in
theorem lx_grow {l : Launch} {G : k_G} {h : Nat} {σ : k_SB} {w : va_W} (hw : XW G h σ w) {p1 : Int32} {p2 : Int32} {o : Int32 × Int32 × Int32 × (Nat → Int32) × (Nat → Int32) × (Nat → Int32) × (Nat → Int32) × (Nat → Int32)} (hrun : fx_grow p1 p2 σ = some o) (sz : Nat) : k_Di l G yX11_grow wsX11_grow rm_X11_grow [.ref h, .int p1, .int p2] w sz o.1 (XW G h (ux_grow σ o)) 0 0 := by
  obtain ⟨a, rfl⟩ := hw
  exact k_framei (c_X11_grow (l := l) (G := G) (sz := sz) (h_t := h) hrun) [0, 1, 2, 3, 4, 25, 26, 27] rfl (by decide) (fun u => Nat.le_of_ble_eq_true rfl) (fun u => ⟨a, rfl⟩)
abbrev fx_cut (p1 : Int32) (σ : k_SB) : Option (Int32 × Int32 × Int32 × (Nat → Int32) × (Nat → Int32) × (Nat → Int32) × (Nat → Int32) × (Nat → Int32)) := f_X11_cut p1 (σ.1 0) (σ.1 3) (σ.1 19) (σ.2.2.1 0) (σ.2.2.1 1) (σ.2.2.1 2) (σ.2.2.1 17) (σ.2.2.1 18)
abbrev ux_cut (σ : k_SB) (o : Int32 × Int32 × Int32 × (Nat → Int32) × (Nat → Int32) × (Nat → Int32) × (Nat → Int32) × (Nat → Int32)) : k_SB := s_a (s_a (s_a (s_a (s_a (s_i (s_i σ 0 o.2.1) 3 o.2.2.1) 0 o.2.2.2.1) 1 o.2.2.2.2.1) 2 o.2.2.2.2.2.1) 17 o.2.2.2.2.2.2.1) 18 o.2.2.2.2.2.2.2
set_option maxRecDepth 100000 in
theorem lx_cut {l : Launch} {G : k_G} {h : Nat} {σ : k_SB} {w : va_W} (hw : XW G h σ w) {p1 : Int32} {o : Int32 × Int32 × Int32 × (Nat → Int32) × (Nat → Int32) × (Nat → Int32) × (Nat → Int32) × (Nat → Int32)} (hrun : fx_cut p1 σ = some o) (sz : Nat) : k_Di l G yX11_cut wsX11_cut rm_X11_cut [.ref h, .int p1] w sz o.1 (XW G h (ux_cut σ o)) 0 0 := by
  obtain ⟨a, rfl⟩ := hw
  exact k_framei (c_X11_cut (l := l) (G := G) (sz := sz) (h_t := h) hrun) [0, 1, 2, 3, 4, 25, 26, 27] rfl (by decide) (fun u => Nat.le_of_ble_eq_true rfl) (fun u => ⟨a, rfl⟩)
abbrev fx_undo (σ : k_SB) : Option (Int32 × Int32 × Int32 × (Nat → Int32) × (Nat → Int32)) := f_X11_undo  (σ.1 0) (σ.1 3) (σ.2.2.1 0) (σ.2.2.1 1) (σ.2.2.1 2) (σ.2.2.1 17) (σ.2.2.1 18)
abbrev ux_undo (σ : k_SB) (o : Int32 × Int32 × Int32 × (Nat → Int32) × (Nat → Int32)) : k_SB := s_a (s_a (s_i (s_i σ 0 o.2.1) 3 o.2.2.1) 17 o.2.2.2.1) 18 o.2.2.2.2
set_option maxRecDepth 100000 in
theorem lx_undo {l : Launch} {G : k_G} {h : Nat} {σ : k_SB} {w : va_W} (hw : XW G h σ w) {o : Int32 × Int32 × Int32 × (Nat → Int32) × (Nat → Int32)} (hrun : fx_undo  σ = some o) (sz : Nat) : k_Di l G yX11_undo wsX11_undo rm_X11_undo [.ref h] w sz o.1 (XW G h (ux_undo σ o)) 0 0 := by
  obtain ⟨a, rfl⟩ := hw
  exact k_framei (c_X11_undo (l := l) (G := G) (sz := sz) (h_t := h) hrun) [0, 1, 2, 3, 4, 25, 26, 27] rfl (by decide) (fun u => Nat.le_of_ble_eq_true rfl) (fun u => ⟨a, rfl⟩)
abbrev fx_image (σ : k_SB) : Option (Int32 × Int32 × Int32 × (Nat → Int32) × (Nat → Int32)) := f_X11_image  (σ.1 0) (σ.1 12) (σ.1 29) (σ.2.2.1 10) (σ.2.2.1 11) (σ.2.2.1 17) (σ.2.2.1 18)
abbrev ux_image (σ : k_SB) (o : Int32 × Int32 × Int32 × (Nat → Int32) × (Nat → Int32)) : k_SB := s_a (s_a (s_i (s_i σ 0 o.2.1) 12 o.2.2.1) 10 o.2.2.2.1) 11 o.2.2.2.2
set_option maxRecDepth 100000 in
theorem lx_image {l : Launch} {G : k_G} {h : Nat} {σ : k_SB} {w : va_W} (hw : XW G h σ w) {o : Int32 × Int32 × Int32 × (Nat → Int32) × (Nat → Int32)} (hrun : fx_image  σ = some o) (sz : Nat) : k_Di l G yX11_image wsX11_image rm_X11_image [.ref h] w sz o.1 (XW G h (ux_image σ o)) 0 0 := by
  obtain ⟨a, rfl⟩ := hw
  exact k_framei (c_X11_image (l := l) (G := G) (sz := sz) (h_t := h) hrun) [0, 15, 16, 17, 25, 26, 27, 31] rfl (by decide) (fun u => Nat.le_of_ble_eq_true rfl) (fun u => ⟨a, rfl⟩)
abbrev fx_back (p1 : Int32) (σ : k_SB) : Option (Int32 × Int32 × Int32 × (Nat → Int32) × (Nat → Int32)) := f_X11_back p1 (σ.1 0) (σ.1 3) (σ.1 12) (σ.2.2.1 10) (σ.2.2.1 11) (σ.2.2.1 17) (σ.2.2.1 18)
abbrev ux_back (σ : k_SB) (o : Int32 × Int32 × Int32 × (Nat → Int32) × (Nat → Int32)) : k_SB := s_a (s_a (s_i (s_i σ 0 o.2.1) 3 o.2.2.1) 17 o.2.2.2.1) 18 o.2.2.2.2
set_option maxRecDepth 100000 in
theorem lx_back {l : Launch} {G : k_G} {h : Nat} {σ : k_SB} {w : va_W} (hw : XW G h σ w) {p1 : Int32} {o : Int32 × Int32 × Int32 × (Nat → Int32) × (Nat → Int32)} (hrun : fx_back p1 σ = some o) (sz : Nat) : k_Di l G yX11_back wsX11_back rm_X11_back [.ref h, .int p1] w sz o.1 (XW G h (ux_back σ o)) 0 0 := by
  obtain ⟨a, rfl⟩ := hw
  exact k_framei (c_X11_back (l := l) (G := G) (sz := sz) (h_t := h) hrun) [0, 1, 15, 16, 17, 25, 26, 27] rfl (by decide) (fun u => Nat.le_of_ble_eq_true rfl) (fun u => ⟨a, rfl⟩)
abbrev fx_size (p1 : Int32) (σ : k_SB) : Option (Int32) := f_X11_size p1 (σ.1 3) (σ.1 12) (σ.1 19) (σ.1 28) (σ.1 35) (σ.1 29) (σ.1 33) (σ.1 30) (σ.1 31) (σ.1 32) (σ.1 34)
abbrev ux_size (σ : k_SB) (o : Int32) : k_SB := σ
set_option maxRecDepth 100000 in
theorem lx_size {l : Launch} {G : k_G} {h : Nat} {σ : k_SB} {w : va_W} (hw : XW G h σ w) {p1 : Int32} {o : Int32} (hrun : fx_size p1 σ = some o) (sz : Nat) : k_Di l G yX11_size wsX11_size rm_X11_size [.ref h, .int p1] w sz o (XW G h (ux_size σ o)) 0 0 := by
  obtain ⟨a, rfl⟩ := hw
  exact k_framei (c_X11_size (l := l) (G := G) (sz := sz) (h_t := h) hrun) [0, 1, 15, 25, 29, 31] rfl (by decide) (fun u => Nat.le_of_ble_eq_true rfl) (fun u => ⟨a, rfl⟩)
abbrev fx_trouble (σ : k_SB) : Option (Int32) := f_X11_trouble  (σ.1 0)
abbrev ux_trouble (σ : k_SB) (o : Int32) : k_SB := σ
set_option maxRecDepth 100000 in
theorem lx_trouble {l : Launch} {G : k_G} {h : Nat} {σ : k_SB} {w : va_W} (hw : XW G h σ w) {o : Int32} (hrun : fx_trouble  σ = some o) (sz : Nat) : k_Di l G yX11_trouble wsX11_trouble rm_X11_trouble [.ref h] w sz o (XW G h (ux_trouble σ o)) 0 0 := by
  obtain ⟨a, rfl⟩ := hw
  exact k_framei (c_X11_trouble (l := l) (G := G) (sz := sz) (h_t := h) hrun) [0] rfl (by decide) (fun u => Nat.le_of_ble_eq_true rfl) (fun u => ⟨a, rfl⟩)
