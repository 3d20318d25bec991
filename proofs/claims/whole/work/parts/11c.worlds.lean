abbrev fn_thrown (σ : k_SB) : Option (Int32) := f_X13_thrown  (σ.1 0)
abbrev un_thrown (σ : k_SB) (o : Int32) : k_SB := σ
set_option maxRecDepth 100000 in
theorem ln_thrown {l : Launch} {G : k_G} {h : Nat} {σ : k_SB} {w : va_W} (hw : MW0 G h σ w) {o : Int32} (hrun : fn_thrown  σ = some o) (sz : Nat) : k_Di l G yX13_thrown wsX13_thrown rm_X13_thrown [.ref h] w sz o (MW0 G h (un_thrown σ o)) 0 0 := by
  obtain ⟨rv, a, rfl⟩ := hw
  exact k_framei (c_X13_thrown (l := l) (G := G) (sz := sz) (h_t := h) hrun) [0] rfl (by decide) (fun u => Nat.le_of_ble_eq_true rfl) (fun u => ⟨rv, a, rfl⟩)
abbrev fn_feed (p1 : Int32) (p2 : Int32) (p3 : Int32) (p4 : Int32) (p5 : Int32) (σ : k_SB) : Option (Int32 × Int32 × Int32 × (Nat → Int32)) := f_X13_feed p1 p2 p3 p4 p5 (σ.1 3) (σ.1 0) (σ.2.2.1 16)
abbrev un_feed (σ : k_SB) (o : Int32 × Int32 × Int32 × (Nat → Int32)) : k_SB := s_a (s_i (s_i σ 3 o.2.1) 0 o.2.2.1) 16 o.2.2.2
set_option maxRecDepth 100000 in
theorem ln_feed {l : Launch} {G : k_G} {h : Nat} {σ : k_SB} {w : va_W} (hw : MW0 G h σ w) {p1 : Int32} {p2 : Int32} {p3 : Int32} {p4 : Int32} {p5 : Int32} {o : Int32 × Int32 × Int32 × (Nat → Int32)} (hrun : fn_feed p1 p2 p3 p4 p5 σ = some o) (sz : Nat) : k_Di l G yX13_feed wsX13_feed rm_X13_feed [.ref h, .int p1, .int p2, .int p3, .int p4, .int p5] w sz o.1 (MW0 G h (un_feed σ o)) 0 0 := by
  obtain ⟨rv, a, rfl⟩ := hw
  exact k_framei (c_X13_feed (l := l) (G := G) (sz := sz) (h_t := h) hrun) [0, 10] rfl (by decide) (fun u => Nat.le_of_ble_eq_true rfl) (fun u => ⟨rv, a, rfl⟩)
abbrev fn_fault (σ : k_SB) : Option (Int32 × Int32) := f_X13_fault  (σ.1 9) (σ.1 0)
abbrev un_fault (σ : k_SB) (o : Int32 × Int32) : k_SB := s_i σ 0 o.2
set_option maxRecDepth 100000 in
theorem ln_fault {l : Launch} {G : k_G} {h : Nat} {σ : k_SB} {w : va_W} (hw : MW0 G h σ w) {o : Int32 × Int32} (hrun : fn_fault  σ = some o) (sz : Nat) : k_Di l G yX13_fault wsX13_fault rm_X13_fault [.ref h] w sz o.1 (MW0 G h (un_fault σ o)) 0 0 := by
  obtain ⟨rv, a, rfl⟩ := hw
  exact k_framei (c_X13_fault (l := l) (G := G) (sz := sz) (h_t := h) hrun) [0] rfl (by decide) (fun u => Nat.le_of_ble_eq_true rfl) (fun u => ⟨rv, a, rfl⟩)
abbrev fn_where (σ : k_SB) : Option (Int32 × Int32) := f_X13_where  (σ.1 0) (σ.1 2)
abbrev un_where (σ : k_SB) (o : Int32 × Int32) : k_SB := s_i σ 0 o.2
set_option maxRecDepth 100000 in
theorem ln_where {l : Launch} {G : k_G} {h : Nat} {σ : k_SB} {w : va_W} (hw : MW0 G h σ w) {o : Int32 × Int32} (hrun : fn_where  σ = some o) (sz : Nat) : k_Di l G yX13_where wsX13_where rm_X13_where [.ref h] w sz o.1 (MW0 G h (un_where σ o)) 0 0 := by
  obtain ⟨rv, a, rfl⟩ := hw
  exact k_framei (c_X13_where (l := l) (G := G) (sz := sz) (h_t := h) hrun) [0] rfl (by decide) (fun u => Nat.le_of_ble_eq_true rfl) (fun u => ⟨rv, a, rfl⟩)
abbrev fn_stack (p1 : Int32) (p2 : Int32) (σ : k_SB) : Option (Int32 × Int32 × Int32 × Int32) := f_X13_stack_0 p1 p2 (σ.1 0) (σ.1 1) (σ.1 2) (σ.2.2.1 17)
abbrev un_stack (σ : k_SB) (o : Int32 × Int32 × Int32 × Int32) : k_SB := s_i (s_i (s_i σ 0 o.2.1) 1 o.2.2.1) 2 o.2.2.2
set_option maxRecDepth 100000 in
theorem ln_stack {l : Launch} {G : k_G} {h : Nat} {σ : k_SB} {w : va_W} (hw : MW0 G h σ w) {p1 : Int32} {p2 : Int32} {o : Int32 × Int32 × Int32 × Int32} (hrun : fn_stack p1 p2 σ = some o) (sz : Nat) : k_Di l G yX13_stack wsX13_stack rm_X13_stack_0 [.ref h, .int p1, .int p2] w sz o.1 (MW0 G h (un_stack σ o)) 0 0 := by
  obtain ⟨rv, a, rfl⟩ := hw
  exact k_framei (c_X13_stack_0 (l := l) (G := G) (sz := sz) (h_t := h) hrun) [0, 11] rfl (by decide) (fun u => Nat.le_of_ble_eq_true rfl) (fun u => ⟨rv, a, rfl⟩)
abbrev fn_sum (p1 : Int32) (σ : k_SB) : Option (Int32 × Int32 × Int32 × Int32) := f_X13_sum_0 p1 (σ.1 0) (σ.1 1) (σ.1 2) (σ.2.2.1 17)
abbrev un_sum (σ : k_SB) (o : Int32 × Int32 × Int32 × Int32) : k_SB := s_i (s_i (s_i σ 0 o.2.1) 1 o.2.2.1) 2 o.2.2.2
set_option maxRecDepth 100000 in
theorem ln_sum {l : Launch} {G : k_G} {h : Nat} {σ : k_SB} {w : va_W} (hw : MW0 G h σ w) {p1 : Int32} {o : Int32 × Int32 × Int32 × Int32} (hrun : fn_sum p1 σ = some o) (sz : Nat) : k_Di l G yX13_sum wsX13_sum rm_X13_sum_0 [.ref h, .int p1] w sz o.1 (MW0 G h (un_sum σ o)) 0 0 := by
  obtain ⟨rv, a, rfl⟩ := hw
  exact k_framei (c_X13_sum_0 (l := l) (G := G) (sz := sz) (h_t := h) hrun) [0, 11] rfl (by decide) (fun u => Nat.le_of_ble_eq_true rfl) (fun u => ⟨rv, a, rfl⟩)
abbrev fn_layer (p1 : Int32) (p2 : Int32) (σ : k_SB) : Option (Int32 × Int32 × Int32 × Int32 × (Nat → Int32)) := f_X13_layer_0 p1 p2 (σ.1 0) (σ.1 1) (σ.1 2) (σ.2.2.1 10) (σ.2.2.1 17)
abbrev un_layer (σ : k_SB) (o : Int32 × Int32 × Int32 × Int32 × (Nat → Int32)) : k_SB := s_a (s_i (s_i (s_i σ 0 o.2.1) 1 o.2.2.1) 2 o.2.2.2.1) 10 o.2.2.2.2
set_option maxRecDepth 100000 in
theorem ln_layer {l : Launch} {G : k_G} {h : Nat} {σ : k_SB} {w : va_W} (hw : MW0 G h σ w) {p1 : Int32} {p2 : Int32} {o : Int32 × Int32 × Int32 × Int32 × (Nat → Int32)} (hrun : fn_layer p1 p2 σ = some o) (sz : Nat) : k_Di l G yX13_layer wsX13_layer rm_X13_layer_0 [.ref h, .int p1, .int p2] w sz o.1 (MW0 G h (un_layer σ o)) 0 0 := by
  obtain ⟨rv, a, rfl⟩ := hw
  exact k_framei (c_X13_layer_0 (l := l) (G := G) (sz := sz) (h_t := h) hrun) [0, 4, 11] rfl (by decide) (fun u => Nat.le_of_ble_eq_true rfl) (fun u => ⟨rv, a, rfl⟩)
abbrev fn_hex (p1 : Int32) (p2 : Int32) (σ : k_SB) : Option (Int32 × Int32 × Int32 × Int32) := f_X13_hex_0 p1 p2 (σ.1 0) (σ.1 1) (σ.1 2) (σ.2.2.1 17)
abbrev un_hex (σ : k_SB) (o : Int32 × Int32 × Int32 × Int32) : k_SB := s_i (s_i (s_i σ 0 o.2.1) 1 o.2.2.1) 2 o.2.2.2
set_option maxRecDepth 100000 in
theorem ln_hex {l : Launch} {G : k_G} {h : Nat} {σ : k_SB} {w : va_W} (hw : MW0 G h σ w) {p1 : Int32} {p2 : Int32} {o : Int32 × Int32 × Int32 × Int32} (hrun : fn_hex p1 p2 σ = some o) (sz : Nat) : k_Di l G yX13_hex wsX13_hex rm_X13_hex_0 [.ref h, .int p1, .int p2] w sz o.1 (MW0 G h (un_hex σ o)) 0 0 := by
  obtain ⟨rv, a, rfl⟩ := hw
  exact k_framei (c_X13_hex_0 (l := l) (G := G) (sz := sz) (h_t := h) hrun) [0, 11] rfl (by decide) (fun u => Nat.le_of_ble_eq_true rfl) (fun u => ⟨rv, a, rfl⟩)
abbrev fn_run (p1 : Int32) (p2 : Int32) (σ : k_SB) : Option (Int32 × Int32 × Int32 × Int32) := f_X13_run_0 p1 p2 (σ.1 0) (σ.1 1) (σ.1 2) (σ.2.2.1 17)
abbrev un_run (σ : k_SB) (o : Int32 × Int32 × Int32 × Int32) : k_SB := s_i (s_i (s_i σ 0 o.2.1) 1 o.2.2.1) 2 o.2.2.2
set_option maxRecDepth 100000 in
theorem ln_run {l : Launch} {G : k_G} {h : Nat} {σ : k_SB} {w : va_W} (hw : MW0 G h σ w) {p1 : Int32} {p2 : Int32} {o : Int32 × Int32 × Int32 × Int32} (hrun : fn_run p1 p2 σ = some o) (sz : Nat) : k_Di l G yX13_run wsX13_run rm_X13_run_0 [.ref h, .int p1, .int p2] w sz o.1 (MW0 G h (un_run σ o)) 0 0 := by
  obtain ⟨rv, a, rfl⟩ := hw
  exact k_framei (c_X13_run_0 (l := l) (G := G) (sz := sz) (h_t := h) hrun) [0, 11] rfl (by decide) (fun u => Nat.le_of_ble_eq_true rfl) (fun u => ⟨rv, a, rfl⟩)
abbrev fn_agree (p1 : Int32) (p2 : Int32) (σ : k_SB) : Option (Int32 × Int32 × Int32 × Int32 × (Nat → Int32)) := f_X13_agree_0 p1 p2 (σ.1 0) (σ.1 1) (σ.1 2) (σ.2.2.1 10) (σ.2.2.1 17)
abbrev un_agree (σ : k_SB) (o : Int32 × Int32 × Int32 × Int32 × (Nat → Int32)) : k_SB := s_a (s_i (s_i (s_i σ 0 o.2.1) 1 o.2.2.1) 2 o.2.2.2.1) 10 o.2.2.2.2
set_option maxRecDepth 100000 in
theorem ln_agree {l : Launch} {G : k_G} {h : Nat} {σ : k_SB} {w : va_W} (hw : MW0 G h σ w) {p1 : Int32} {p2 : Int32} {o : Int32 × Int32 × Int32 × Int32 × (Nat → Int32)} (hrun : fn_agree p1 p2 σ = some o) (sz : Nat) : k_Di l G yX13_agree wsX13_agree rm_X13_agree_0 [.ref h, .int p1, .int p2] w sz o.1 (MW0 G h (un_agree σ o)) 0 0 := by
  obtain ⟨rv, a, rfl⟩ := hw
  exact k_framei (c_X13_agree_0 (l := l) (G := G) (sz := sz) (h_t := h) hrun) [0, 4, 11] rfl (by decide) (fun u => Nat.le_of_ble_eq_true rfl) (fun u => ⟨rv, a, rfl⟩)
abbrev fn_share (p1 : Int32) (p2 : Int32) (σ : k_SB) : Option (Int64 × Int32 × Int32 × Int32) := f_X13_share_0 p1 p2 (σ.1 0) (σ.1 1) (σ.1 2) (σ.2.2.1 17)
abbrev un_share (σ : k_SB) (o : Int64 × Int32 × Int32 × Int32) : k_SB := s_i (s_i (s_i σ 0 o.2.1) 1 o.2.2.1) 2 o.2.2.2
set_option maxRecDepth 100000 in
theorem ln_share {l : Launch} {G : k_G} {h : Nat} {σ : k_SB} {w : va_W} (hw : MW0 G h σ w) {p1 : Int32} {p2 : Int32} {o : Int64 × Int32 × Int32 × Int32} (hrun : fn_share p1 p2 σ = some o) (sz : Nat) : k_Dl l G yX13_share wsX13_share rm_X13_share_0 [.ref h, .int p1, .int p2] w sz o.1 (MW0 G h (un_share σ o)) 0 0 := by
  obtain ⟨rv, a, rfl⟩ := hw
  exact k_framel (c_X13_share_0 (l := l) (G := G) (sz := sz) (h_t := h) hrun) [0, 11] rfl (by decide) (fun u => Nat.le_of_ble_eq_true rfl) (fun u => ⟨rv, a, rfl⟩)
abbrev fn_energy (p1 : Int32) (σ : k_SB) : Option (Int32 × Int32 × Int32 × Int32) := f_X13_energy_0 p1 (σ.1 0) (σ.1 1) (σ.1 2) (σ.2.2.1 17)
abbrev un_energy (σ : k_SB) (o : Int32 × Int32 × Int32 × Int32) : k_SB := s_i (s_i (s_i σ 0 o.2.1) 1 o.2.2.1) 2 o.2.2.2
set_option maxRecDepth 100000 in
theorem ln_energy {l : Launch} {G : k_G} {h : Nat} {σ : k_SB} {w : va_W} (hw : MW0 G h σ w) {p1 : Int32} {o : Int32 × Int32 × Int32 × Int32} (hrun : fn_energy p1 σ = some o) (sz : Nat) : k_Di l G yX13_energy wsX13_energy rm_X13_energy_0 [.ref h, .int p1] w sz o.1 (MW0 G h (un_energy σ o)) 0 0 := by
  obtain ⟨rv, a, rfl⟩ := hw
  exact k_framei (c_X13_energy_0 (l := l) (G := G) (sz := sz) (h_t := h) hrun) [0, 11] rfl (by decide) (fun u => Nat.le_of_ble_eq_true rfl) (fun u => ⟨rv, a, rfl⟩)
abbrev fn_calmest (σ : k_SB) : Option (Int32 × Int32 × Int32 × Int32) := f_X13_calmest_0  (σ.1 0) (σ.1 1) (σ.1 2)
abbrev un_calmest (σ : k_SB) (o : Int32 × Int32 × Int32 × Int32) : k_SB := s_i (s_i (s_i σ 0 o.2.1) 1 o.2.2.1) 2 o.2.2.2
set_option maxRecDepth 100000 in
theorem ln_calmest {l : Launch} {G : k_G} {h : Nat} {σ : k_SB} {w : va_W} (hw : MW0 G h σ w) {o : Int32 × Int32 × Int32 × Int32} (hrun : fn_calmest  σ = some o) (sz : Nat) : k_Di l G yX13_calmest wsX13_calmest rm_X13_calmest_0 [.ref h] w sz o.1 (MW0 G h (un_calmest σ o)) 0 0 := by
  obtain ⟨rv, a, rfl⟩ := hw
  exact k_framei (c_X13_calmest_0 (l := l) (G := G) (sz := sz) (h_t := h) hrun) [0] rfl (by decide) (fun u => Nat.le_of_ble_eq_true rfl) (fun u => ⟨rv, a, rfl⟩)
abbrev fn_out (p1 : Int32) (p2 : Int32) (σ : k_SB) : Option (Int32 × Int32 × Int32 × Int32 × (Nat → Int32) × (Nat → Int32) × (Nat → Int32)) := f_X13_out_0 p1 p2 (σ.1 0) (σ.1 1) (σ.1 2) (σ.2.2.1 9) (σ.2.2.1 10) (σ.2.2.1 13) (σ.2.2.1 17)
abbrev un_out (σ : k_SB) (o : Int32 × Int32 × Int32 × Int32 × (Nat → Int32) × (Nat → Int32) × (Nat → Int32)) : k_SB := s_a (s_a (s_a (s_i (s_i (s_i σ 0 o.2.1) 1 o.2.2.1) 2 o.2.2.2.1) 9 o.2.2.2.2.1) 10 o.2.2.2.2.2.1) 13 o.2.2.2.2.2.2
set_option maxRecDepth 100000 in
theorem ln_out {l : Launch} {G : k_G} {h : Nat} {σ : k_SB} {w : va_W} (hw : MW0 G h σ w) {p1 : Int32} {p2 : Int32} {o : Int32 × Int32 × Int32 × Int32 × (Nat → Int32) × (Nat → Int32) × (Nat → Int32)} (hrun : fn_out p1 p2 σ = some o) (sz : Nat) : k_Di l G yX13_out wsX13_out rm_X13_out_0 [.ref h, .int p1, .int p2] w sz o.1 (MW0 G h (un_out σ o)) 0 0 := by
  obtain ⟨rv, a, rfl⟩ := hw
  exact k_framei (c_X13_out_0 (l := l) (G := G) (sz := sz) (h_t := h) hrun) [0, 3, 4, 7, 11] rfl (by decide) (fun u => Nat.le_of_ble_eq_true rfl) (fun u => ⟨rv, a, rfl⟩)
abbrev fn_outs (p1 : Int32) (σ : k_SB) : Option (Int32 × Int32 × Int32 × Int32 × (Nat → Int32) × (Nat → Int32) × (Nat → Int32)) := f_X13_outs_0 p1 (σ.1 0) (σ.1 1) (σ.1 2) (σ.2.2.1 9) (σ.2.2.1 10) (σ.2.2.1 13) (σ.2.2.1 17)
abbrev un_outs (σ : k_SB) (o : Int32 × Int32 × Int32 × Int32 × (Nat → Int32) × (Nat → Int32) × (Nat → Int32)) : k_SB := s_a (s_a (s_a (s_i (s_i (s_i σ 0 o.2.1) 1 o.2.2.1) 2 o.2.2.2.1) 9 o.2.2.2.2.1) 10 o.2.2.2.2.2.1) 13 o.2.2.2.2.2.2
set_option maxRecDepth 100000 in
theorem ln_outs {l : Launch} {G : k_G} {h : Nat} {σ : k_SB} {w : va_W} (hw : MW0 G h σ w) {p1 : Int32} {o : Int32 × Int32 × Int32 × Int32 × (Nat → Int32) × (Nat → Int32) × (Nat → Int32)} (hrun : fn_outs p1 σ = some o) (sz : Nat) : k_Di l G yX13_outs wsX13_outs rm_X13_outs_0 [.ref h, .int p1] w sz o.1 (MW0 G h (un_outs σ o)) 0 0 := by
  obtain ⟨rv, a, rfl⟩ := hw
  exact k_framei (c_X13_outs_0 (l := l) (G := G) (sz := sz) (h_t := h) hrun) [0, 3, 4, 7, 11] rfl (by decide) (fun u => Nat.le_of_ble_eq_true rfl) (fun u => ⟨rv, a, rfl⟩)
abbrev fn_firstLine (p1 : Int32) (σ : k_SB) : Option (Int32 × Int32 × Int32 × Int32 × (Nat → Int32) × (Nat → Int32) × (Nat → Int32)) := f_X13_firstLine_0 p1 (σ.1 0) (σ.1 1) (σ.1 2) (σ.2.2.1 9) (σ.2.2.1 10) (σ.2.2.1 13) (σ.2.2.1 17)
abbrev un_firstLine (σ : k_SB) (o : Int32 × Int32 × Int32 × Int32 × (Nat → Int32) × (Nat → Int32) × (Nat → Int32)) : k_SB := s_a (s_a (s_a (s_i (s_i (s_i σ 0 o.2.1) 1 o.2.2.1) 2 o.2.2.2.1) 9 o.2.2.2.2.1) 10 o.2.2.2.2.2.1) 13 o.2.2.2.2.2.2
set_option maxRecDepth 100000 in
theorem ln_firstLine {l : Launch} {G : k_G} {h : Nat} {σ : k_SB} {w : va_W} (hw : MW0 G h σ w) {p1 : Int32} {o : Int32 × Int32 × Int32 × Int32 × (Nat → Int32) × (Nat → Int32) × (Nat → Int32)} (hrun : fn_firstLine p1 σ = some o) (sz : Nat) : k_Di l G yX13_firstLine wsX13_firstLine rm_X13_firstLine_0 [.ref h, .int p1] w sz o.1 (MW0 G h (un_firstLine σ o)) 0 0 := by
  obtain ⟨rv, a, rfl⟩ := hw
  exact k_framei (c_X13_firstLine_0 (l := l) (G := G) (sz := sz) (h_t := h) hrun) [0, 3, 4, 7, 11] rfl (by decide) (fun u => Nat.le_of_ble_eq_true rfl) (fun u => ⟨rv, a, rfl⟩)
abbrev fn_sameLines (p1 : Int32) (p2 : Int32) (σ : k_SB) : Option (Int32 × Int32 × Int32 × Int32 × (Nat → Int32) × (Nat → Int32) × (Nat → Int32)) := f_X13_sameLines_0 p1 p2 (σ.1 0) (σ.1 1) (σ.1 2) (σ.2.2.1 9) (σ.2.2.1 10) (σ.2.2.1 13) (σ.2.2.1 17)
abbrev un_sameLines (σ : k_SB) (o : Int32 × Int32 × Int32 × Int32 × (Nat → Int32) × (Nat → Int32) × (Nat → Int32)) : k_SB := s_a (s_a (s_a (s_i (s_i (s_i σ 0 o.2.1) 1 o.2.2.1) 2 o.2.2.2.1) 9 o.2.2.2.2.1) 10 o.2.2.2.2.2.1) 13 o.2.2.2.2.2.2
set_option maxRecDepth 100000 in
theorem ln_sameLines {l : Launch} {G : k_G} {h : Nat} {σ : k_SB} {w : va_W} (hw : MW0 G h σ w) {p1 : Int32} {p2 : Int32} {o : Int32 × Int32 × Int32 × Int32 × (Nat → Int32) × (Nat → Int32) × (Nat → Int32)} (hrun : fn_sameLines p1 p2 σ = some o) (sz : Nat) : k_Di l G yX13_sameLines wsX13_sameLines rm_X13_sameLines_0 [.ref h, .int p1, .int p2] w sz o.1 (MW0 G h (un_sameLines σ o)) 0 0 := by
  obtain ⟨rv, a, rfl⟩ := hw
  exact k_framei (c_X13_sameLines_0 (l := l) (G := G) (sz := sz) (h_t := h) hrun) [0, 3, 4, 7, 11] rfl (by decide) (fun u => Nat.le_of_ble_eq_true rfl) (fun u => ⟨rv, a, rfl⟩)
abbrev fn_differs (p1 : Int32) (p2 : Int32) (σ : k_SB) : Option (Int32 × Int32 × Int32 × Int32 × (Nat → Int32)) := f_X13_differs_0 p1 p2 (σ.1 0) (σ.1 1) (σ.1 2) (σ.2.2.1 10) (σ.2.2.1 17)
abbrev un_differs (σ : k_SB) (o : Int32 × Int32 × Int32 × Int32 × (Nat → Int32)) : k_SB := s_a (s_i (s_i (s_i σ 0 o.2.1) 1 o.2.2.1) 2 o.2.2.2.1) 10 o.2.2.2.2
set_option maxRecDepth 100000 in
theorem ln_differs {l : Launch} {G : k_G} {h : Nat} {σ : k_SB} {w : va_W} (hw : MW0 G h σ w) {p1 : Int32} {p2 : Int32} {o : Int32 × Int32 × Int32 × Int32 × (Nat → Int32)} (hrun : fn_differs p1 p2 σ = some o) (sz : Nat) : k_Di l G yX13_differs wsX13_differs rm_X13_differs_0 [.ref h, .int p1, .int p2] w sz o.1 (MW0 G h (un_differs σ o)) 0 0 := by
  obtain ⟨rv, a, rfl⟩ := hw
  exact k_framei (c_X13_differs_0 (l := l) (G := G) (sz := sz) (h_t := h) hrun) [0, 4, 11] rfl (by decide) (fun u => Nat.le_of_ble_eq_true rfl) (fun u => ⟨rv, a, rfl⟩)
abbrev fn_ground (p1 : Int32) (σ : k_SB) : Option (Int32 × Int32 × Int32 × Int32 × Int32 × Int32) := f_X13_ground_0 p1 (σ.1 17) (σ.1 16) (σ.1 0) (σ.1 1) (σ.1 2)
abbrev un_ground (σ : k_SB) (o : Int32 × Int32 × Int32 × Int32 × Int32 × Int32) : k_SB := s_i (s_i (s_i (s_i (s_i σ 17 o.2.1) 16 o.2.2.1) 0 o.2.2.2.1) 1 o.2.2.2.2.1) 2 o.2.2.2.2.2
set_option maxRecDepth 100000 in
theorem ln_ground {l : Launch} {G : k_G} {h : Nat} {σ : k_SB} {w : va_W} (hw : MW0 G h σ w) {p1 : Int32} {o : Int32 × Int32 × Int32 × Int32 × Int32 × Int32} (hrun : fn_ground p1 σ = some o) (sz : Nat) : k_Di l G yX13_ground wsX13_ground rm_X13_ground_0 [.ref h, .int p1] w sz o.1 (MW0 G h (un_ground σ o)) 0 0 := by
  obtain ⟨rv, a, rfl⟩ := hw
  exact k_framei (c_X13_ground_0 (l := l) (G := G) (sz := sz) (h_t := h) hrun) [0] rfl (by decide) (fun u => Nat.le_of_ble_eq_true rfl) (fun u => ⟨rv, a, rfl⟩)
abbrev fn_groundRow (p1 : Int32) (σ : k_SB) : Option (Int32 × Int32 × Int32 × Int32 × Int32 × Int32) := f_X13_groundRow_0 p1 (σ.1 17) (σ.1 16) (σ.1 0) (σ.1 1) (σ.1 2)
abbrev un_groundRow (σ : k_SB) (o : Int32 × Int32 × Int32 × Int32 × Int32 × Int32) : k_SB := s_i (s_i (s_i (s_i (s_i σ 17 o.2.1) 16 o.2.2.1) 0 o.2.2.2.1) 1 o.2.2.2.2.1) 2 o.2.2.2.2.2
set_option maxRecDepth 100000 in
theorem ln_groundRow {l : Launch} {G : k_G} {h : Nat} {σ : k_SB} {w : va_W} (hw : MW0 G h σ w) {p1 : Int32} {o : Int32 × Int32 × Int32 × Int32 × Int32 × Int32} (hrun : fn_groundRow p1 σ = some o) (sz : Nat) : k_Di l G yX13_groundRow wsX13_groundRow rm_X13_groundRow_0 [.ref h, .int p1] w sz o.1 (MW0 G h (un_groundRow σ o)) 0 0 := by
  obtain ⟨rv, a, rfl⟩ := hw
  exact k_framei (c_X13_groundRow_0 (l := l) (G := G) (sz := sz) (h_t := h) hrun) [0] rfl (by decide) (fun u => Nat.le_of_ble_eq_true rfl) (fun u => ⟨rv, a, rfl⟩)
abbrev fn_groundMany (p1 : Int32) (σ : k_SB) : Option (Int32 × Int32 × Int32 × Int32 × Int32 × Int32) := f_X13_groundMany_0 p1 (σ.1 17) (σ.1 16) (σ.1 0) (σ.1 1) (σ.1 2)
abbrev un_groundMany (σ : k_SB) (o : Int32 × Int32 × Int32 × Int32 × Int32 × Int32) : k_SB := s_i (s_i (s_i (s_i (s_i σ 17 o.2.1) 16 o.2.2.1) 0 o.2.2.2.1) 1 o.2.2.2.2.1) 2 o.2.2.2.2.2
set_option maxRecDepth 100000 in
theorem ln_groundMany {l : Launch} {G : k_G} {h : Nat} {σ : k_SB} {w : va_W} (hw : MW0 G h σ w) {p1 : Int32} {o : Int32 × Int32 × Int32 × Int32 × Int32 × Int32} (hrun : fn_groundMany p1 σ = some o) (sz : Nat) : k_Di l G yX13_groundMany wsX13_groundMany rm_X13_groundMany_0 [.ref h, .int p1] w sz o.1 (MW0 G h (un_groundMany σ o)) 0 0 := by
  obtain ⟨rv, a, rfl⟩ := hw
  exact k_framei (c_X13_groundMany_0 (l := l) (G := G) (sz := sz) (h_t := h) hrun) [0] rfl (by decide) (fun u => Nat.le_of_ble_eq_true rfl) (fun u => ⟨rv, a, rfl⟩)
abbrev fn_groundBest (σ : k_SB) : Option (Int32 × Int32 × Int32 × Int32) := f_X13_groundBest_0  (σ.1 0) (σ.1 1) (σ.1 2)
abbrev un_groundBest (σ : k_SB) (o : Int32 × Int32 × Int32 × Int32) : k_SB := s_i (s_i (s_i σ 0 o.2.1) 1 o.2.2.1) 2 o.2.2.2
set_option maxRecDepth 100000 in
theorem ln_groundBest {l : Launch} {G : k_G} {h : Nat} {σ : k_SB} {w : va_W} (hw : MW0 G h σ w) {o : Int32 × Int32 × Int32 × Int32} (hrun : fn_groundBest  σ = some o) (sz : Nat) : k_Di l G yX13_groundBest wsX13_groundBest rm_X13_groundBest_0 [.ref h] w sz o.1 (MW0 G h (un_groundBest σ o)) 0 0 := by
  obtain ⟨rv, a, rfl⟩ := hw
  exact k_framei (c_X13_groundBest_0 (l := l) (G := G) (sz := sz) (h_t := h) hrun) [0] rfl (by decide) (fun u => Nat.le_of_ble_eq_true rfl) (fun u => ⟨rv, a, rfl⟩)
abbrev fn_kinds (p1 : Int32) (p2 : Int32) (p3 : Int32) (σ : k_SB) : Option (Int32 × Int32 × Int32 × Int32) := f_X13_kinds_0 p1 p2 p3 (σ.1 0) (σ.1 1) (σ.1 2)
abbrev un_kinds (σ : k_SB) (o : Int32 × Int32 × Int32 × Int32) : k_SB := s_i (s_i (s_i σ 0 o.2.1) 1 o.2.2.1) 2 o.2.2.2
set_option maxRecDepth 100000 in
theorem ln_kinds {l : Launch} {G : k_G} {h : Nat} {σ : k_SB} {w : va_W} (hw : MW0 G h σ w) {p1 : Int32} {p2 : Int32} {p3 : Int32} {o : Int32 × Int32 × Int32 × Int32} (hrun : fn_kinds p1 p2 p3 σ = some o) (sz : Nat) : k_Di l G yX13_kinds wsX13_kinds rm_X13_kinds_0 [.ref h, .int p1, .int p2, .int p3] w sz o.1 (MW0 G h (un_kinds σ o)) 0 0 := by
  obtain ⟨rv, a, rfl⟩ := hw
  exact k_framei (c_X13_kinds_0 (l := l) (G := G) (sz := sz) (h_t := h) hrun) [0] rfl (by decide) (fun u => Nat.le_of_ble_eq_true rfl) (fun u => ⟨rv, a, rfl⟩)
abbrev fn_alike (p1 : Int32) (p2 : Int32) (p3 : Int32) (σ : k_SB) : Option (Int32 × Int32 × Int32 × Int32) := f_X13_alike_0 p1 p2 p3 (σ.1 0) (σ.1 1) (σ.1 2) (σ.2.2.1 17)
abbrev un_alike (σ : k_SB) (o : Int32 × Int32 × Int32 × Int32) : k_SB := s_i (s_i (s_i σ 0 o.2.1) 1 o.2.2.1) 2 o.2.2.2
set_option maxRecDepth 100000 in
theorem ln_alike {l : Launch} {G : k_G} {h : Nat} {σ : k_SB} {w : va_W} (hw : MW0 G h σ w) {p1 : Int32} {p2 : Int32} {p3 : Int32} {o : Int32 × Int32 × Int32 × Int32} (hrun : fn_alike p1 p2 p3 σ = some o) (sz : Nat) : k_Di l G yX13_alike wsX13_alike rm_X13_alike_0 [.ref h, .int p1, .int p2, .int p3] w sz o.1 (MW0 G h (un_alike σ o)) 0 0 := by
  obtain ⟨rv, a, rfl⟩ := hw
  exact k_framei (c_X13_alike_0 (l := l) (G := G) (sz := sz) (h_t := h) hrun) [0, 11] rfl (by decide) (fun u => Nat.le_of_ble_eq_true rfl) (fun u => ⟨rv, a, rfl⟩)
abbrev fn_least (p1 : Int32) (p2 : Int32) (σ : k_SB) : Option (Int32 × Int32 × Int32 × Int32) := f_X13_least_0 p1 p2 (σ.1 0) (σ.1 1) (σ.1 2) (σ.2.2.1 17)
abbrev un_least (σ : k_SB) (o : Int32 × Int32 × Int32 × Int32) : k_SB := s_i (s_i (s_i σ 0 o.2.1) 1 o.2.2.1) 2 o.2.2.2
set_option maxRecDepth 100000 in
theorem ln_least {l : Launch} {G : k_G} {h : Nat} {σ : k_SB} {w : va_W} (hw : MW0 G h σ w) {p1 : Int32} {p2 : Int32} {o : Int32 × Int32 × Int32 × Int32} (hrun : fn_least p1 p2 σ = some o) (sz : Nat) : k_Di l G yX13_least wsX13_least rm_X13_least_0 [.ref h, .int p1, .int p2] w sz o.1 (MW0 G h (un_least σ o)) 0 0 := by
  obtain ⟨rv, a, rfl⟩ := hw
  exact k_framei (c_X13_least_0 (l := l) (G := G) (sz := sz) (h_t := h) hrun) [0, 11] rfl (by decide) (fun u => Nat.le_of_ble_eq_true rfl) (fun u => ⟨rv, a, rfl⟩)
abbrev fn_manyAlike (p1 : Int32) (p2 : Int32) (σ : k_SB) : Option (Int32 × Int32 × Int32 × Int32) := f_X13_manyAlike_0 p1 p2 (σ.1 0) (σ.1 1) (σ.1 2) (σ.2.2.1 17)
abbrev un_manyAlike (σ : k_SB) (o : Int32 × Int32 × Int32 × Int32) : k_SB := s_i (s_i (s_i σ 0 o.2.1) 1 o.2.2.1) 2 o.2.2.2
set_option maxRecDepth 100000 in
theorem ln_manyAlike {l : Launch} {G : k_G} {h : Nat} {σ : k_SB} {w : va_W} (hw : MW0 G h σ w) {p1 : Int32} {p2 : Int32} {o : Int32 × Int32 × Int32 × Int32} (hrun : fn_manyAlike p1 p2 σ = some o) (sz : Nat) : k_Di l G yX13_manyAlike wsX13_manyAlike rm_X13_manyAlike_0 [.ref h, .int p1, .int p2] w sz o.1 (MW0 G h (un_manyAlike σ o)) 0 0 := by
  obtain ⟨rv, a, rfl⟩ := hw
  exact k_framei (c_X13_manyAlike_0 (l := l) (G := G) (sz := sz) (h_t := h) hrun) [0, 11] rfl (by decide) (fun u => Nat.le_of_ble_eq_true rfl) (fun u => ⟨rv, a, rfl⟩)
abbrev fn_slips (p1 : Int32) (p2 : Int32) (p3 : Int32) (σ : k_SB) : Option (Int32 × Int32 × Int32 × Int32) := f_X13_slips_0 p1 p2 p3 (σ.1 0) (σ.1 1) (σ.1 2) (σ.2.2.1 17)
abbrev un_slips (σ : k_SB) (o : Int32 × Int32 × Int32 × Int32) : k_SB := s_i (s_i (s_i σ 0 o.2.1) 1 o.2.2.1) 2 o.2.2.2
set_option maxRecDepth 100000 in
theorem ln_slips {l : Launch} {G : k_G} {h : Nat} {σ : k_SB} {w : va_W} (hw : MW0 G h σ w) {p1 : Int32} {p2 : Int32} {p3 : Int32} {o : Int32 × Int32 × Int32 × Int32} (hrun : fn_slips p1 p2 p3 σ = some o) (sz : Nat) : k_Di l G yX13_slips wsX13_slips rm_X13_slips_0 [.ref h, .int p1, .int p2, .int p3] w sz o.1 (MW0 G h (un_slips σ o)) 0 0 := by
  obtain ⟨rv, a, rfl⟩ := hw
  exact k_framei (c_X13_slips_0 (l := l) (G := G) (sz := sz) (h_t := h) hrun) [0, 11] rfl (by decide) (fun u => Nat.le_of_ble_eq_true rfl) (fun u => ⟨rv, a, rfl⟩)
abbrev fn_slipEnergy (p1 : Int32) (p2 : Int32) (σ : k_SB) : Option (Int32 × Int32 × Int32 × Int32) := f_X13_slipEnergy_0 p1 p2 (σ.1 0) (σ.1 1) (σ.1 2) (σ.2.2.1 17)
abbrev un_slipEnergy (σ : k_SB) (o : Int32 × Int32 × Int32 × Int32) : k_SB := s_i (s_i (s_i σ 0 o.2.1) 1 o.2.2.1) 2 o.2.2.2
set_option maxRecDepth 100000 in
theorem ln_slipEnergy {l : Launch} {G : k_G} {h : Nat} {σ : k_SB} {w : va_W} (hw : MW0 G h σ w) {p1 : Int32} {p2 : Int32} {o : Int32 × Int32 × Int32 × Int32} (hrun : fn_slipEnergy p1 p2 σ = some o) (sz : Nat) : k_Di l G yX13_slipEnergy wsX13_slipEnergy rm_X13_slipEnergy_0 [.ref h, .int p1, .int p2] w sz o.1 (MW0 G h (un_slipEnergy σ o)) 0 0 := by
  obtain ⟨rv, a, rfl⟩ := hw
  exact k_framei (c_X13_slipEnergy_0 (l := l) (G := G) (sz := sz) (h_t := h) hrun) [0, 11] rfl (by decide) (fun u => Nat.le_of_ble_eq_true rfl) (fun u => ⟨rv, a, rfl⟩)
abbrev fn_weakest (p1 : Int32) (σ : k_SB) : Option (Int32 × Int32 × Int32 × Int32) := f_X13_weakest_0 p1 (σ.1 0) (σ.1 1) (σ.1 2) (σ.2.2.1 17)
abbrev un_weakest (σ : k_SB) (o : Int32 × Int32 × Int32 × Int32) : k_SB := s_i (s_i (s_i σ 0 o.2.1) 1 o.2.2.1) 2 o.2.2.2
set_option maxRecDepth 100000 in
theorem ln_weakest {l : Launch} {G : k_G} {h : Nat} {σ : k_SB} {w : va_W} (hw : MW0 G h σ w) {p1 : Int32} {o : Int32 × Int32 × Int32 × Int32} (hrun : fn_weakest p1 σ = some o) (sz : Nat) : k_Di l G yX13_weakest wsX13_weakest rm_X13_weakest_0 [.ref h, .int p1] w sz o.1 (MW0 G h (un_weakest σ o)) 0 0 := by
  obtain ⟨rv, a, rfl⟩ := hw
  exact k_framei (c_X13_weakest_0 (l := l) (G := G) (sz := sz) (h_t := h) hrun) [0, 11] rfl (by decide) (fun u => Nat.le_of_ble_eq_true rfl) (fun u => ⟨rv, a, rfl⟩)
abbrev fn_faultEnergy (p1 : Int32) (p2 : Int32) (σ : k_SB) : Option (Int32 × Int32 × Int32 × Int32) := f_X13_faultEnergy_0 p1 p2 (σ.1 0) (σ.1 1) (σ.1 2) (σ.2.2.1 17)
abbrev un_faultEnergy (σ : k_SB) (o : Int32 × Int32 × Int32 × Int32) : k_SB := s_i (s_i (s_i σ 0 o.2.1) 1 o.2.2.1) 2 o.2.2.2
set_option maxRecDepth 100000 in
theorem ln_faultEnergy {l : Launch} {G : k_G} {h : Nat} {σ : k_SB} {w : va_W} (hw : MW0 G h σ w) {p1 : Int32} {p2 : Int32} {o : Int32 × Int32 × Int32 × Int32} (hrun : fn_faultEnergy p1 p2 σ = some o) (sz : Nat) : k_Di l G yX13_faultEnergy wsX13_faultEnergy rm_X13_faultEnergy_0 [.ref h, .int p1, .int p2] w sz o.1 (MW0 G h (un_faultEnergy σ o)) 0 0 := by
  obtain ⟨rv, a, rfl⟩ := hw
  exact k_framei (c_X13_faultEnergy_0 (l := l) (G := G) (sz := sz) (h_t := h) hrun) [0, 11] rfl (by decide) (fun u => Nat.le_of_ble_eq_true rfl) (fun u => ⟨rv, a, rfl⟩)
abbrev fn_bestFault (p1 : Int32) (σ : k_SB) : Option (Int32 × Int32 × Int32 × Int32) := f_X13_bestFault_0 p1 (σ.1 0) (σ.1 1) (σ.1 2) (σ.2.2.1 17)
abbrev un_bestFault (σ : k_SB) (o : Int32 × Int32 × Int32 × Int32) : k_SB := s_i (s_i (s_i σ 0 o.2.1) 1 o.2.2.1) 2 o.2.2.2
set_option maxRecDepth 100000 in
theorem ln_bestFault {l : Launch} {G : k_G} {h : Nat} {σ : k_SB} {w : va_W} (hw : MW0 G h σ w) {p1 : Int32} {o : Int32 × Int32 × Int32 × Int32} (hrun : fn_bestFault p1 σ = some o) (sz : Nat) : k_Di l G yX13_bestFault wsX13_bestFault rm_X13_bestFault_0 [.ref h, .int p1] w sz o.1 (MW0 G h (un_bestFault σ o)) 0 0 := by
  obtain ⟨rv, a, rfl⟩ := hw
  exact k_framei (c_X13_bestFault_0 (l := l) (G := G) (sz := sz) (h_t := h) hrun) [0, 11] rfl (by decide) (fun u => Nat.le_of_ble_eq_true rfl) (fun u => ⟨rv, a, rfl⟩)
abbrev fn_relax (p1 : Int32) (σ : k_SB) : Option (Int32 × Int32 × Int32 × Int32 × Int32) := f_X13_relax_0 p1 (σ.1 18) (σ.1 0) (σ.1 1) (σ.1 2) (σ.2.2.1 17)
abbrev un_relax (σ : k_SB) (o : Int32 × Int32 × Int32 × Int32 × Int32) : k_SB := s_i (s_i (s_i (s_i σ 18 o.2.1) 0 o.2.2.1) 1 o.2.2.2.1) 2 o.2.2.2.2
set_option maxRecDepth 100000 in
theorem ln_relax {l : Launch} {G : k_G} {h : Nat} {σ : k_SB} {w : va_W} (hw : MW0 G h σ w) {p1 : Int32} {o : Int32 × Int32 × Int32 × Int32 × Int32} (hrun : fn_relax p1 σ = some o) (sz : Nat) : k_Di l G yX13_relax wsX13_relax rm_X13_relax_0 [.ref h, .int p1] w sz o.1 (MW0 G h (un_relax σ o)) 0 0 := by
  obtain ⟨rv, a, rfl⟩ := hw
  exact k_framei (c_X13_relax_0 (l := l) (G := G) (sz := sz) (h_t := h) hrun) [0, 11] rfl (by decide) (fun u => Nat.le_of_ble_eq_true rfl) (fun u => ⟨rv, a, rfl⟩)
abbrev fn_relaxed (p1 : Int32) (σ : k_SB) : Option (Int32 × Int32 × Int32 × Int32 × Int32) := f_X13_relaxed_0 p1 (σ.1 18) (σ.1 0) (σ.1 1) (σ.1 2) (σ.2.2.1 17)
abbrev un_relaxed (σ : k_SB) (o : Int32 × Int32 × Int32 × Int32 × Int32) : k_SB := s_i (s_i (s_i (s_i σ 18 o.2.1) 0 o.2.2.1) 1 o.2.2.2.1) 2 o.2.2.2.2
set_option maxRecDepth 100000 in
theorem ln_relaxed {l : Launch} {G : k_G} {h : Nat} {σ : k_SB} {w : va_W} (hw : MW0 G h σ w) {p1 : Int32} {o : Int32 × Int32 × Int32 × Int32 × Int32} (hrun : fn_relaxed p1 σ = some o) (sz : Nat) : k_Di l G yX13_relaxed wsX13_relaxed rm_X13_relaxed_0 [.ref h, .int p1] w sz o.1 (MW0 G h (un_relaxed σ o)) 0 0 := by
  obtain ⟨rv, a, rfl⟩ := hw
  exact k_framei (c_X13_relaxed_0 (l := l) (G := G) (sz := sz) (h_t := h) hrun) [0, 11] rfl (by decide) (fun u => Nat.le_of_ble_eq_true rfl) (fun u => ⟨rv, a, rfl⟩)
abbrev fn_pass (p1 : Int32) (p2 : Int32) (σ : k_SB) : Option (Int32 × Int32 × Int32 × Int32 × (Nat → Int32) × (Nat → Int32) × (Nat → Int32)) := f_X13_pass_0 p1 p2 (σ.1 0) (σ.1 1) (σ.1 2) (σ.2.2.1 0) (σ.2.2.1 11) (σ.2.2.1 15) (σ.2.2.1 17)
abbrev un_pass (σ : k_SB) (o : Int32 × Int32 × Int32 × Int32 × (Nat → Int32) × (Nat → Int32) × (Nat → Int32)) : k_SB := s_a (s_a (s_a (s_i (s_i (s_i σ 0 o.2.1) 1 o.2.2.1) 2 o.2.2.2.1) 0 o.2.2.2.2.1) 11 o.2.2.2.2.2.1) 15 o.2.2.2.2.2.2
set_option maxRecDepth 100000 in
theorem ln_pass {l : Launch} {G : k_G} {h : Nat} {σ : k_SB} {w : va_W} (hw : MW0 G h σ w) {p1 : Int32} {p2 : Int32} {o : Int32 × Int32 × Int32 × Int32 × (Nat → Int32) × (Nat → Int32) × (Nat → Int32)} (hrun : fn_pass p1 p2 σ = some o) (sz : Nat) : k_Di l G yX13_pass wsX13_pass rm_X13_pass_0 [.ref h, .int p1, .int p2] w sz o.1 (MW0 G h (un_pass σ o)) 0 0 := by
  obtain ⟨rv, a, rfl⟩ := hw
  exact k_framei (c_X13_pass_0 (l := l) (G := G) (sz := sz) (h_t := h) hrun) [0, 1, 5, 9, 11] rfl (by decide) (fun u => Nat.le_of_ble_eq_true rfl) (fun u => ⟨rv, a, rfl⟩)
abbrev fn_valley (p1 : Int32) (σ : k_SB) : Option (Int32 × Int32 × Int32 × Int32 × (Nat → Int32) × (Nat → Int32) × (Nat → Int32)) := f_X13_valley_0 p1 (σ.1 0) (σ.1 1) (σ.1 2) (σ.2.2.1 0) (σ.2.2.1 11) (σ.2.2.1 15) (σ.2.2.1 17)
abbrev un_valley (σ : k_SB) (o : Int32 × Int32 × Int32 × Int32 × (Nat → Int32) × (Nat → Int32) × (Nat → Int32)) : k_SB := s_a (s_a (s_a (s_i (s_i (s_i σ 0 o.2.1) 1 o.2.2.1) 2 o.2.2.2.1) 0 o.2.2.2.2.1) 11 o.2.2.2.2.2.1) 15 o.2.2.2.2.2.2
set_option maxRecDepth 100000 in
theorem ln_valley {l : Launch} {G : k_G} {h : Nat} {σ : k_SB} {w : va_W} (hw : MW0 G h σ w) {p1 : Int32} {o : Int32 × Int32 × Int32 × Int32 × (Nat → Int32) × (Nat → Int32) × (Nat → Int32)} (hrun : fn_valley p1 σ = some o) (sz : Nat) : k_Di l G yX13_valley wsX13_valley rm_X13_valley_0 [.ref h, .int p1] w sz o.1 (MW0 G h (un_valley σ o)) 0 0 := by
  obtain ⟨rv, a, rfl⟩ := hw
  exact k_framei (c_X13_valley_0 (l := l) (G := G) (sz := sz) (h_t := h) hrun) [0, 1, 5, 9, 11] rfl (by decide) (fun u => Nat.le_of_ble_eq_true rfl) (fun u => ⟨rv, a, rfl⟩)
abbrev fn_fits (σ : k_SB) : Option (Int32 × Int32 × Int32 × Int32) := f_X13_fits_0  (σ.1 0) (σ.1 1) (σ.1 2)
abbrev un_fits (σ : k_SB) (o : Int32 × Int32 × Int32 × Int32) : k_SB := s_i (s_i (s_i σ 0 o.2.1) 1 o.2.2.1) 2 o.2.2.2
set_option maxRecDepth 100000 in
theorem ln_fits {l : Launch} {G : k_G} {h : Nat} {σ : k_SB} {w : va_W} (hw : MW0 G h σ w) {o : Int32 × Int32 × Int32 × Int32} (hrun : fn_fits  σ = some o) (sz : Nat) : k_Di l G yX13_fits wsX13_fits rm_X13_fits_0 [.ref h] w sz o.1 (MW0 G h (un_fits σ o)) 0 0 := by
  obtain ⟨rv, a, rfl⟩ := hw
  exact k_framei (c_X13_fits_0 (l := l) (G := G) (sz := sz) (h_t := h) hrun) [0] rfl (by decide) (fun u => Nat.le_of_ble_eq_true rfl) (fun u => ⟨rv, a, rfl⟩)
abbrev fn_fitAt (p1 : Int32) (σ : k_SB) : Option (Int32 × Int32 × Int32 × Int32) := f_X13_fitAt_0 p1 (σ.1 0) (σ.1 1) (σ.1 2)
abbrev un_fitAt (σ : k_SB) (o : Int32 × Int32 × Int32 × Int32) : k_SB := s_i (s_i (s_i σ 0 o.2.1) 1 o.2.2.1) 2 o.2.2.2
set_option maxRecDepth 100000 in
theorem ln_fitAt {l : Launch} {G : k_G} {h : Nat} {σ : k_SB} {w : va_W} (hw : MW0 G h σ w) {p1 : Int32} {o : Int32 × Int32 × Int32 × Int32} (hrun : fn_fitAt p1 σ = some o) (sz : Nat) : k_Di l G yX13_fitAt wsX13_fitAt rm_X13_fitAt_0 [.ref h, .int p1] w sz o.1 (MW0 G h (un_fitAt σ o)) 0 0 := by
  obtain ⟨rv, a, rfl⟩ := hw
  exact k_framei (c_X13_fitAt_0 (l := l) (G := G) (sz := sz) (h_t := h) hrun) [0] rfl (by decide) (fun u => Nat.le_of_ble_eq_true rfl) (fun u => ⟨rv, a, rfl⟩)
abbrev fn_could (σ : k_SB) : Option (Int32 × Int32 × Int32 × Int32) := f_X13_could_0  (σ.1 0) (σ.1 1) (σ.1 2)
abbrev un_could (σ : k_SB) (o : Int32 × Int32 × Int32 × Int32) : k_SB := s_i (s_i (s_i σ 0 o.2.1) 1 o.2.2.1) 2 o.2.2.2
set_option maxRecDepth 100000 in
theorem ln_could {l : Launch} {G : k_G} {h : Nat} {σ : k_SB} {w : va_W} (hw : MW0 G h σ w) {o : Int32 × Int32 × Int32 × Int32} (hrun : fn_could  σ = some o) (sz : Nat) : k_Di l G yX13_could wsX13_could rm_X13_could_0 [.ref h] w sz o.1 (MW0 G h (un_could σ o)) 0 0 := by
  obtain ⟨rv, a, rfl⟩ := hw
  exact k_framei (c_X13_could_0 (l := l) (G := G) (sz := sz) (h_t := h) hrun) [0] rfl (by decide) (fun u => Nat.le_of_ble_eq_true rfl) (fun u => ⟨rv, a, rfl⟩)
abbrev fn_surely (σ : k_SB) : Option (Int32 × Int32 × Int32 × Int32) := f_X13_surely_0  (σ.1 0) (σ.1 1) (σ.1 2)
abbrev un_surely (σ : k_SB) (o : Int32 × Int32 × Int32 × Int32) : k_SB := s_i (s_i (s_i σ 0 o.2.1) 1 o.2.2.1) 2 o.2.2.2
set_option maxRecDepth 100000 in
theorem ln_surely {l : Launch} {G : k_G} {h : Nat} {σ : k_SB} {w : va_W} (hw : MW0 G h σ w) {o : Int32 × Int32 × Int32 × Int32} (hrun : fn_surely  σ = some o) (sz : Nat) : k_Di l G yX13_surely wsX13_surely rm_X13_surely_0 [.ref h] w sz o.1 (MW0 G h (un_surely σ o)) 0 0 := by
  obtain ⟨rv, a, rfl⟩ := hw
  exact k_framei (c_X13_surely_0 (l := l) (G := G) (sz := sz) (h_t := h) hrun) [0] rfl (by decide) (fun u => Nat.le_of_ble_eq_true rfl) (fun u => ⟨rv, a, rfl⟩)
abbrev fn_ask (σ : k_SB) : Option (Int32 × Int32 × Int32 × Int32) := f_X13_ask_0  (σ.1 0) (σ.1 1) (σ.1 2)
abbrev un_ask (σ : k_SB) (o : Int32 × Int32 × Int32 × Int32) : k_SB := s_i (s_i (s_i σ 0 o.2.1) 1 o.2.2.1) 2 o.2.2.2
set_option maxRecDepth 100000 in
theorem ln_ask {l : Launch} {G : k_G} {h : Nat} {σ : k_SB} {w : va_W} (hw : MW0 G h σ w) {o : Int32 × Int32 × Int32 × Int32} (hrun : fn_ask  σ = some o) (sz : Nat) : k_Di l G yX13_ask wsX13_ask rm_X13_ask_0 [.ref h] w sz o.1 (MW0 G h (un_ask σ o)) 0 0 := by
  obtain ⟨rv, a, rfl⟩ := hw
  exact k_framei (c_X13_ask_0 (l := l) (G := G) (sz := sz) (h_t := h) hrun) [0] rfl (by decide) (fun u => Nat.le_of_ble_eq_true rfl) (fun u => ⟨rv, a, rfl⟩)
abbrev fn_askLeaves (σ : k_SB) : Option (Int32 × Int32 × Int32 × Int32) := f_X13_askLeaves_0  (σ.1 0) (σ.1 1) (σ.1 2)
abbrev un_askLeaves (σ : k_SB) (o : Int32 × Int32 × Int32 × Int32) : k_SB := s_i (s_i (s_i σ 0 o.2.1) 1 o.2.2.1) 2 o.2.2.2
set_option maxRecDepth 100000 in
theorem ln_askLeaves {l : Launch} {G : k_G} {h : Nat} {σ : k_SB} {w : va_W} (hw : MW0 G h σ w) {o : Int32 × Int32 × Int32 × Int32} (hrun : fn_askLeaves  σ = some o) (sz : Nat) : k_Di l G yX13_askLeaves wsX13_askLeaves rm_X13_askLeaves_0 [.ref h] w sz o.1 (MW0 G h (un_askLeaves σ o)) 0 0 := by
  obtain ⟨rv, a, rfl⟩ := hw
  exact k_framei (c_X13_askLeaves_0 (l := l) (G := G) (sz := sz) (h_t := h) hrun) [0] rfl (by decide) (fun u => Nat.le_of_ble_eq_true rfl) (fun u => ⟨rv, a, rfl⟩)
abbrev fn_judge (σ : k_SB) : Option (Int32 × Int32 × Int32 × Int32) := f_X13_judge_0  (σ.1 0) (σ.1 1) (σ.1 2)
abbrev un_judge (σ : k_SB) (o : Int32 × Int32 × Int32 × Int32) : k_SB := s_i (s_i (s_i σ 0 o.2.1) 1 o.2.2.1) 2 o.2.2.2
set_option maxRecDepth 100000 in
theorem ln_judge {l : Launch} {G : k_G} {h : Nat} {σ : k_SB} {w : va_W} (hw : MW0 G h σ w) {o : Int32 × Int32 × Int32 × Int32} (hrun : fn_judge  σ = some o) (sz : Nat) : k_Di l G yX13_judge wsX13_judge rm_X13_judge_0 [.ref h] w sz o.1 (MW0 G h (un_judge σ o)) 0 0 := by
  obtain ⟨rv, a, rfl⟩ := hw
  exact k_framei (c_X13_judge_0 (l := l) (G := G) (sz := sz) (h_t := h) hrun) [0] rfl (by decide) (fun u => Nat.le_of_ble_eq_true rfl) (fun u => ⟨rv, a, rfl⟩)
abbrev fn_odds (p1 : Int32) (p2 : Int32) (p3 : Int32) (σ : k_SB) : Option (Int64 × Int32 × Int32 × Int32) := f_X13_odds_0 p1 p2 p3 (σ.1 0) (σ.1 1) (σ.1 2)
abbrev un_odds (σ : k_SB) (o : Int64 × Int32 × Int32 × Int32) : k_SB := s_i (s_i (s_i σ 0 o.2.1) 1 o.2.2.1) 2 o.2.2.2
set_option maxRecDepth 100000 in
theorem ln_odds {l : Launch} {G : k_G} {h : Nat} {σ : k_SB} {w : va_W} (hw : MW0 G h σ w) {p1 : Int32} {p2 : Int32} {p3 : Int32} {o : Int64 × Int32 × Int32 × Int32} (hrun : fn_odds p1 p2 p3 σ = some o) (sz : Nat) : k_Dl l G yX13_odds wsX13_odds rm_X13_odds_0 [.ref h, .int p1, .int p2, .int p3] w sz o.1 (MW0 G h (un_odds σ o)) 0 0 := by
  obtain ⟨rv, a, rfl⟩ := hw
  exact k_framel (c_X13_odds_0 (l := l) (G := G) (sz := sz) (h_t := h) hrun) [0] rfl (by decide) (fun u => Nat.le_of_ble_eq_true rfl) (fun u => ⟨rv, a, rfl⟩)
abbrev fn_rowOdds (p1 : Int32) (p2 : Int32) (σ : k_SB) : Option (Int64 × Int32 × Int32 × Int32) := f_X13_rowOdds_0 p1 p2 (σ.1 0) (σ.1 1) (σ.1 2) (σ.2.2.1 17)
abbrev un_rowOdds (σ : k_SB) (o : Int64 × Int32 × Int32 × Int32) : k_SB := s_i (s_i (s_i σ 0 o.2.1) 1 o.2.2.1) 2 o.2.2.2
set_option maxRecDepth 100000 in
theorem ln_rowOdds {l : Launch} {G : k_G} {h : Nat} {σ : k_SB} {w : va_W} (hw : MW0 G h σ w) {p1 : Int32} {p2 : Int32} {o : Int64 × Int32 × Int32 × Int32} (hrun : fn_rowOdds p1 p2 σ = some o) (sz : Nat) : k_Dl l G yX13_rowOdds wsX13_rowOdds rm_X13_rowOdds_0 [.ref h, .int p1, .int p2] w sz o.1 (MW0 G h (un_rowOdds σ o)) 0 0 := by
  obtain ⟨rv, a, rfl⟩ := hw
  exact k_framel (c_X13_rowOdds_0 (l := l) (G := G) (sz := sz) (h_t := h) hrun) [0, 11] rfl (by decide) (fun u => Nat.le_of_ble_eq_true rfl) (fun u => ⟨rv, a, rfl⟩)
abbrev fn_meanSum (p1 : Int32) (p2 : Int32) (σ : k_SB) : Option (Int64 × Int32 × Int32 × Int32) := f_X13_meanSum_0 p1 p2 (σ.1 0) (σ.1 1) (σ.1 2)
abbrev un_meanSum (σ : k_SB) (o : Int64 × Int32 × Int32 × Int32) : k_SB := s_i (s_i (s_i σ 0 o.2.1) 1 o.2.2.1) 2 o.2.2.2
set_option maxRecDepth 100000 in
theorem ln_meanSum {l : Launch} {G : k_G} {h : Nat} {σ : k_SB} {w : va_W} (hw : MW0 G h σ w) {p1 : Int32} {p2 : Int32} {o : Int64 × Int32 × Int32 × Int32} (hrun : fn_meanSum p1 p2 σ = some o) (sz : Nat) : k_Dl l G yX13_meanSum wsX13_meanSum rm_X13_meanSum_0 [.ref h, .int p1, .int p2] w sz o.1 (MW0 G h (un_meanSum σ o)) 0 0 := by
  obtain ⟨rv, a, rfl⟩ := hw
  exact k_framel (c_X13_meanSum_0 (l := l) (G := G) (sz := sz) (h_t := h) hrun) [0] rfl (by decide) (fun u => Nat.le_of_ble_eq_true rfl) (fun u => ⟨rv, a, rfl⟩)
abbrev fn_grown (p1 : Int32) (p2 : Int32) (σ : k_SB) : Option (Int32 × Int32 × Int32 × Int32 × Int32) := f_X13_grown_0 p1 p2 (σ.1 23) (σ.1 0) (σ.1 1) (σ.1 2)
abbrev un_grown (σ : k_SB) (o : Int32 × Int32 × Int32 × Int32 × Int32) : k_SB := s_i (s_i (s_i (s_i σ 23 o.2.1) 0 o.2.2.1) 1 o.2.2.2.1) 2 o.2.2.2.2
set_option maxRecDepth 100000 in
theorem ln_grown {l : Launch} {G : k_G} {h : Nat} {σ : k_SB} {w : va_W} (hw : MW0 G h σ w) {p1 : Int32} {p2 : Int32} {o : Int32 × Int32 × Int32 × Int32 × Int32} (hrun : fn_grown p1 p2 σ = some o) (sz : Nat) : k_Di l G yX13_grown wsX13_grown rm_X13_grown_0 [.ref h, .int p1, .int p2] w sz o.1 (MW0 G h (un_grown σ o)) 0 0 := by
  obtain ⟨rv, a, rfl⟩ := hw
  exact k_framei (c_X13_grown_0 (l := l) (G := G) (sz := sz) (h_t := h) hrun) [0] rfl (by decide) (fun u => Nat.le_of_ble_eq_true rfl) (fun u => ⟨rv, a, rfl⟩)
abbrev fn_longestRun (p1 : Int32) (p2 : Int32) (σ : k_SB) : Option (Int32 × Int32 × Int32 × Int32 × Int32) := f_X13_longestRun_0 p1 p2 (σ.1 23) (σ.1 0) (σ.1 1) (σ.1 2)
abbrev un_longestRun (σ : k_SB) (o : Int32 × Int32 × Int32 × Int32 × Int32) : k_SB := s_i (s_i (s_i (s_i σ 23 o.2.1) 0 o.2.2.1) 1 o.2.2.2.1) 2 o.2.2.2.2
set_option maxRecDepth 100000 in
theorem ln_longestRun {l : Launch} {G : k_G} {h : Nat} {σ : k_SB} {w : va_W} (hw : MW0 G h σ w) {p1 : Int32} {p2 : Int32} {o : Int32 × Int32 × Int32 × Int32 × Int32} (hrun : fn_longestRun p1 p2 σ = some o) (sz : Nat) : k_Di l G yX13_longestRun wsX13_longestRun rm_X13_longestRun_0 [.ref h, .int p1, .int p2] w sz o.1 (MW0 G h (un_longestRun σ o)) 0 0 := by
  obtain ⟨rv, a, rfl⟩ := hw
  exact k_framei (c_X13_longestRun_0 (l := l) (G := G) (sz := sz) (h_t := h) hrun) [0] rfl (by decide) (fun u => Nat.le_of_ble_eq_true rfl) (fun u => ⟨rv, a, rfl⟩)
abbrev fn_slip (p1 : Int32) (p2 : Int32) (σ : k_SB) : Option (Int32 × Int32 × Int32 × Int32 × Int32 × (Nat → Int32) × (Nat → Int32)) := f_X13_slip_0 p1 p2 (σ.1 14) (σ.1 0) (σ.1 1) (σ.1 2) (σ.2.2.1 14) (σ.2.2.1 17)
abbrev un_slip (σ : k_SB) (o : Int32 × Int32 × Int32 × Int32 × Int32 × (Nat → Int32) × (Nat → Int32)) : k_SB := s_a (s_a (s_i (s_i (s_i (s_i σ 14 o.2.1) 0 o.2.2.1) 1 o.2.2.2.1) 2 o.2.2.2.2.1) 14 o.2.2.2.2.2.1) 17 o.2.2.2.2.2.2
set_option maxRecDepth 100000 in
theorem ln_slip {l : Launch} {G : k_G} {h : Nat} {σ : k_SB} {w : va_W} (hw : MW0 G h σ w) {p1 : Int32} {p2 : Int32} {o : Int32 × Int32 × Int32 × Int32 × Int32 × (Nat → Int32) × (Nat → Int32)} (hrun : fn_slip p1 p2 σ = some o) (sz : Nat) : k_Di l G yX13_slip wsX13_slip rm_X13_slip_0 [.ref h, .int p1, .int p2] w sz o.1 (MW0 G h (un_slip σ o)) 0 0 := by
  obtain ⟨rv, a, rfl⟩ := hw
  exact k_framei (c_X13_slip_0 (l := l) (G := G) (sz := sz) (h_t := h) hrun) [0, 8, 11] rfl (by decide) (fun u => Nat.le_of_ble_eq_true rfl) (fun u => ⟨rv, a, rfl⟩)
abbrev fn_turn (p1 : Int32) (σ : k_SB) : Option (Int32 × Int32 × Int32 × Int32 × Int32 × (Nat → Int32) × (Nat → Int32)) := f_X13_turn_0 p1 (σ.1 14) (σ.1 0) (σ.1 1) (σ.1 2) (σ.2.2.1 14) (σ.2.2.1 17)
abbrev un_turn (σ : k_SB) (o : Int32 × Int32 × Int32 × Int32 × Int32 × (Nat → Int32) × (Nat → Int32)) : k_SB := s_a (s_a (s_i (s_i (s_i (s_i σ 14 o.2.1) 0 o.2.2.1) 1 o.2.2.2.1) 2 o.2.2.2.2.1) 14 o.2.2.2.2.2.1) 17 o.2.2.2.2.2.2
set_option maxRecDepth 100000 in
theorem ln_turn {l : Launch} {G : k_G} {h : Nat} {σ : k_SB} {w : va_W} (hw : MW0 G h σ w) {p1 : Int32} {o : Int32 × Int32 × Int32 × Int32 × Int32 × (Nat → Int32) × (Nat → Int32)} (hrun : fn_turn p1 σ = some o) (sz : Nat) : k_Di l G yX13_turn wsX13_turn rm_X13_turn_0 [.ref h, .int p1] w sz o.1 (MW0 G h (un_turn σ o)) 0 0 := by
  obtain ⟨rv, a, rfl⟩ := hw
  exact k_framei (c_X13_turn_0 (l := l) (G := G) (sz := sz) (h_t := h) hrun) [0, 8, 11] rfl (by decide) (fun u => Nat.le_of_ble_eq_true rfl) (fun u => ⟨rv, a, rfl⟩)
abbrev fn_twin (p1 : Int32) (σ : k_SB) : Option (Int32 × Int32 × Int32 × Int32 × Int32 × (Nat → Int32) × (Nat → Int32)) := f_X13_twin_0 p1 (σ.1 14) (σ.1 0) (σ.1 1) (σ.1 2) (σ.2.2.1 14) (σ.2.2.1 17)
abbrev un_twin (σ : k_SB) (o : Int32 × Int32 × Int32 × Int32 × Int32 × (Nat → Int32) × (Nat → Int32)) : k_SB := s_a (s_a (s_i (s_i (s_i (s_i σ 14 o.2.1) 0 o.2.2.1) 1 o.2.2.2.1) 2 o.2.2.2.2.1) 14 o.2.2.2.2.2.1) 17 o.2.2.2.2.2.2
set_option maxRecDepth 100000 in
theorem ln_twin {l : Launch} {G : k_G} {h : Nat} {σ : k_SB} {w : va_W} (hw : MW0 G h σ w) {p1 : Int32} {o : Int32 × Int32 × Int32 × Int32 × Int32 × (Nat → Int32) × (Nat → Int32)} (hrun : fn_twin p1 σ = some o) (sz : Nat) : k_Di l G yX13_twin wsX13_twin rm_X13_twin_0 [.ref h, .int p1] w sz o.1 (MW0 G h (un_twin σ o)) 0 0 := by
  obtain ⟨rv, a, rfl⟩ := hw
  exact k_framei (c_X13_twin_0 (l := l) (G := G) (sz := sz) (h_t := h) hrun) [0, 8, 11] rfl (by decide) (fun u => Nat.le_of_ble_eq_true rfl) (fun u => ⟨rv, a, rfl⟩)
abbrev fn_grow (p1 : Int32) (p2 : Int32) (σ : k_SB) : Option (Int32 × Int32 × Int32 × Int32 × Int32 × (Nat → Int32) × (Nat → Int32)) := f_X13_grow_0 p1 p2 (σ.1 14) (σ.1 0) (σ.1 1) (σ.1 2) (σ.2.2.1 14) (σ.2.2.1 17)
abbrev un_grow (σ : k_SB) (o : Int32 × Int32 × Int32 × Int32 × Int32 × (Nat → Int32) × (Nat → Int32)) : k_SB := s_a (s_a (s_i (s_i (s_i (s_i σ 14 o.2.1) 0 o.2.2.1) 1 o.2.2.2.1) 2 o.2.2.2.2.1) 14 o.2.2.2.2.2.1) 17 o.2.2.2.2.2.2
set_option maxRecDepth 100000 in
theorem ln_grow {l : Launch} {G : k_G} {h : Nat} {σ : k_SB} {w : va_W} (hw : MW0 G h σ w) {p1 : Int32} {p2 : Int32} {o : Int32 × Int32 × Int32 × Int32 × Int32 × (Nat → Int32) × (Nat → Int32)} (hrun : fn_grow p1 p2 σ = some o) (sz : Nat) : k_Di l G yX13_grow wsX13_grow rm_X13_grow_0 [.ref h, .int p1, .int p2] w sz o.1 (MW0 G h (un_grow σ o)) 0 0 := by
  obtain ⟨rv, a, rfl⟩ := hw
  exact k_framei (c_X13_grow_0 (l := l) (G := G) (sz := sz) (h_t := h) hrun) [0, 8, 11] rfl (by decide) (fun u => Nat.le_of_ble_eq_true rfl) (fun u => ⟨rv, a, rfl⟩)
abbrev fn_cut (p1 : Int32) (σ : k_SB) : Option (Int32 × Int32 × Int32 × Int32 × Int32 × (Nat → Int32) × (Nat → Int32)) := f_X13_cut_0 p1 (σ.1 14) (σ.1 0) (σ.1 1) (σ.1 2) (σ.2.2.1 14) (σ.2.2.1 17)
abbrev un_cut (σ : k_SB) (o : Int32 × Int32 × Int32 × Int32 × Int32 × (Nat → Int32) × (Nat → Int32)) : k_SB := s_a (s_a (s_i (s_i (s_i (s_i σ 14 o.2.1) 0 o.2.2.1) 1 o.2.2.2.1) 2 o.2.2.2.2.1) 14 o.2.2.2.2.2.1) 17 o.2.2.2.2.2.2
set_option maxRecDepth 100000 in
theorem ln_cut {l : Launch} {G : k_G} {h : Nat} {σ : k_SB} {w : va_W} (hw : MW0 G h σ w) {p1 : Int32} {o : Int32 × Int32 × Int32 × Int32 × Int32 × (Nat → Int32) × (Nat → Int32)} (hrun : fn_cut p1 σ = some o) (sz : Nat) : k_Di l G yX13_cut wsX13_cut rm_X13_cut_0 [.ref h, .int p1] w sz o.1 (MW0 G h (un_cut σ o)) 0 0 := by
  obtain ⟨rv, a, rfl⟩ := hw
  exact k_framei (c_X13_cut_0 (l := l) (G := G) (sz := sz) (h_t := h) hrun) [0, 8, 11] rfl (by decide) (fun u => Nat.le_of_ble_eq_true rfl) (fun u => ⟨rv, a, rfl⟩)
abbrev fn_undo (σ : k_SB) : Option (Int32 × Int32 × Int32 × Int32) := f_X13_undo_0  (σ.1 0) (σ.1 1) (σ.1 2)
abbrev un_undo (σ : k_SB) (o : Int32 × Int32 × Int32 × Int32) : k_SB := s_i (s_i (s_i σ 0 o.2.1) 1 o.2.2.1) 2 o.2.2.2
set_option maxRecDepth 100000 in
theorem ln_undo {l : Launch} {G : k_G} {h : Nat} {σ : k_SB} {w : va_W} (hw : MW0 G h σ w) {o : Int32 × Int32 × Int32 × Int32} (hrun : fn_undo  σ = some o) (sz : Nat) : k_Di l G yX13_undo wsX13_undo rm_X13_undo_0 [.ref h] w sz o.1 (MW0 G h (un_undo σ o)) 0 0 := by
  obtain ⟨rv, a, rfl⟩ := hw
  exact k_framei (c_X13_undo_0 (l := l) (G := G) (sz := sz) (h_t := h) hrun) [0] rfl (by decide) (fun u => Nat.le_of_ble_eq_true rfl) (fun u => ⟨rv, a, rfl⟩)
abbrev fn_image (σ : k_SB) : Option (Int32 × Int32 × Int32 × Int32) := f_X13_image_0  (σ.1 0) (σ.1 1) (σ.1 2)
abbrev un_image (σ : k_SB) (o : Int32 × Int32 × Int32 × Int32) : k_SB := s_i (s_i (s_i σ 0 o.2.1) 1 o.2.2.1) 2 o.2.2.2
set_option maxRecDepth 100000 in
theorem ln_image {l : Launch} {G : k_G} {h : Nat} {σ : k_SB} {w : va_W} (hw : MW0 G h σ w) {o : Int32 × Int32 × Int32 × Int32} (hrun : fn_image  σ = some o) (sz : Nat) : k_Di l G yX13_image wsX13_image rm_X13_image_0 [.ref h] w sz o.1 (MW0 G h (un_image σ o)) 0 0 := by
  obtain ⟨rv, a, rfl⟩ := hw
  exact k_framei (c_X13_image_0 (l := l) (G := G) (sz := sz) (h_t := h) hrun) [0] rfl (by decide) (fun u => Nat.le_of_ble_eq_true rfl) (fun u => ⟨rv, a, rfl⟩)
abbrev fn_back (p1 : Int32) (σ : k_SB) : Option (Int32 × Int32 × Int32 × Int32) := f_X13_back_0 p1 (σ.1 0) (σ.1 1) (σ.1 2)
abbrev un_back (σ : k_SB) (o : Int32 × Int32 × Int32 × Int32) : k_SB := s_i (s_i (s_i σ 0 o.2.1) 1 o.2.2.1) 2 o.2.2.2
set_option maxRecDepth 100000 in
theorem ln_back {l : Launch} {G : k_G} {h : Nat} {σ : k_SB} {w : va_W} (hw : MW0 G h σ w) {p1 : Int32} {o : Int32 × Int32 × Int32 × Int32} (hrun : fn_back p1 σ = some o) (sz : Nat) : k_Di l G yX13_back wsX13_back rm_X13_back_0 [.ref h, .int p1] w sz o.1 (MW0 G h (un_back σ o)) 0 0 := by
  obtain ⟨rv, a, rfl⟩ := hw
  exact k_framei (c_X13_back_0 (l := l) (G := G) (sz := sz) (h_t := h) hrun) [0] rfl (by decide) (fun u => Nat.le_of_ble_eq_true rfl) (fun u => ⟨rv, a, rfl⟩)
abbrev fn_led (p1 : Int32) (σ : k_SB) : Option (Int32 × Int32) := f_X13_led_0 p1 (σ.1 0)
abbrev un_led (σ : k_SB) (o : Int32 × Int32) : k_SB := s_i σ 0 o.2
set_option maxRecDepth 100000 in
theorem ln_led {l : Launch} {G : k_G} {h : Nat} {σ : k_SB} {w : va_W} (hw : MW0 G h σ w) {p1 : Int32} {o : Int32 × Int32} (hrun : fn_led p1 σ = some o) (sz : Nat) : k_Di l G yX13_led wsX13_led rm_X13_led_0 [.ref h, .int p1] w sz o.1 (MW0 G h (un_led σ o)) 0 0 := by
  obtain ⟨rv, a, rfl⟩ := hw
  exact k_framei (c_X13_led_0 (l := l) (G := G) (sz := sz) (h_t := h) hrun) [0] rfl (by decide) (fun u => Nat.le_of_ble_eq_true rfl) (fun u => ⟨rv, a, rfl⟩)
abbrev fn_size (p1 : Int32) (σ : k_SB) : Option (Int32 × Int32) := f_X13_size_0 p1 (σ.1 3) (σ.1 0)
abbrev un_size (σ : k_SB) (o : Int32 × Int32) : k_SB := s_i σ 0 o.2
set_option maxRecDepth 100000 in
theorem ln_size {l : Launch} {G : k_G} {h : Nat} {σ : k_SB} {w : va_W} (hw : MW0 G h σ w) {p1 : Int32} {o : Int32 × Int32} (hrun : fn_size p1 σ = some o) (sz : Nat) : k_Di l G yX13_size wsX13_size rm_X13_size_0 [.ref h, .int p1] w sz o.1 (MW0 G h (un_size σ o)) 0 0 := by
  obtain ⟨rv, a, rfl⟩ := hw
  exact k_framei (c_X13_size_0 (l := l) (G := G) (sz := sz) (h_t := h) hrun) [0] rfl (by decide) (fun u => Nat.le_of_ble_eq_true rfl) (fun u => ⟨rv, a, rfl⟩)
abbrev fn_trouble (σ : k_SB) : Option (Int32 × Int32) := f_X13_trouble  (σ.1 0) (σ.1 1)
abbrev un_trouble (σ : k_SB) (o : Int32 × Int32) : k_SB := s_i σ 0 o.2
set_option maxRecDepth 100000 in
theorem ln_trouble {l : Launch} {G : k_G} {h : Nat} {σ : k_SB} {w : va_W} (hw : MW0 G h σ w) {o : Int32 × Int32} (hrun : fn_trouble  σ = some o) (sz : Nat) : k_Di l G yX13_trouble wsX13_trouble rm_X13_trouble [.ref h] w sz o.1 (MW0 G h (un_trouble σ o)) 0 0 := by
  obtain ⟨rv, a, rfl⟩ := hw
  exact k_framei (c_X13_trouble (l := l) (G := G) (sz := sz) (h_t := h) hrun) [0] rfl (by decide) (fun u => Nat.le_of_ble_eq_true rfl) (fun u => ⟨rv, a, rfl⟩)
