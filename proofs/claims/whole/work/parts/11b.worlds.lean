abbrev fm_thrown (σ : k_SB) : Option (Int32) := f_X13_thrown  (σ.1 0)
abbrev um_thrown (σ : k_SB) (o : Int32) : k_SB := σ
set_option maxRecDepth 100000 in
theorem lm_thrown {l : Launch} {G : k_G} {h : Nat} {σ : k_SB} {w : va_W} (hw : MW1 G h σ w) {o : Int32} (hrun : fm_thrown  σ = some o) (sz : Nat) : k_Di l G yX13_thrown wsX13_thrown rm_X13_thrown [.ref h] w sz o (MW1 G h (um_thrown σ o)) 0 0 := by
  obtain ⟨rv, a, rfl⟩ := hw
  exact k_framei (c_X13_thrown (l := l) (G := G) (sz := sz) (h_t := h) hrun) [0] rfl (by decide) (fun u => Nat.le_of_ble_eq_true rfl) (fun u => ⟨rv, a, rfl⟩)
abbrev fm_feed (p1 : Int32) (p2 : Int32) (p3 : Int32) (p4 : Int32) (p5 : Int32) (σ : k_SB) : Option (Int32 × Int32 × Int32 × (Nat → Int32)) := f_X13_feed p1 p2 p3 p4 p5 (σ.1 3) (σ.1 0) (σ.2.2.1 16)
abbrev um_feed (σ : k_SB) (o : Int32 × Int32 × Int32 × (Nat → Int32)) : k_SB := s_a (s_i (s_i σ 3 o.2.1) 0 o.2.2.1) 16 o.2.2.2
set_option maxRecDepth 100000 in
theorem lm_feed {l : Launch} {G : k_G} {h : Nat} {σ : k_SB} {w : va_W} (hw : MW1 G h σ w) {p1 : Int32} {p2 : Int32} {p3 : Int32} {p4 : Int32} {p5 : Int32} {o : Int32 × Int32 × Int32 × (Nat → Int32)} (hrun : fm_feed p1 p2 p3 p4 p5 σ = some o) (sz : Nat) : k_Di l G yX13_feed wsX13_feed rm_X13_feed [.ref h, .int p1, .int p2, .int p3, .int p4, .int p5] w sz o.1 (MW1 G h (um_feed σ o)) 0 0 := by
  obtain ⟨rv, a, rfl⟩ := hw
  exact k_framei (c_X13_feed (l := l) (G := G) (sz := sz) (h_t := h) hrun) [0, 19] rfl (by decide) (fun u => Nat.le_of_ble_eq_true rfl) (fun u => ⟨rv, a, rfl⟩)
abbrev fm_fault (σ : k_SB) : Option (Int32 × Int32) := f_X13_fault  (σ.1 9) (σ.1 0)
abbrev um_fault (σ : k_SB) (o : Int32 × Int32) : k_SB := s_i σ 0 o.2
set_option maxRecDepth 100000 in
theorem lm_fault {l : Launch} {G : k_G} {h : Nat} {σ : k_SB} {w : va_W} (hw : MW1 G h σ w) {o : Int32 × Int32} (hrun : fm_fault  σ = some o) (sz : Nat) : k_Di l G yX13_fault wsX13_fault rm_X13_fault [.ref h] w sz o.1 (MW1 G h (um_fault σ o)) 0 0 := by
  obtain ⟨rv, a, rfl⟩ := hw
  exact k_framei (c_X13_fault (l := l) (G := G) (sz := sz) (h_t := h) hrun) [0] rfl (by decide) (fun u => Nat.le_of_ble_eq_true rfl) (fun u => ⟨rv, a, rfl⟩)
abbrev fm_where (σ : k_SB) : Option (Int32 × Int32) := f_X13_where  (σ.1 0) (σ.1 2)
abbrev um_where (σ : k_SB) (o : Int32 × Int32) : k_SB := s_i σ 0 o.2
set_option maxRecDepth 100000 in
theorem lm_where {l : Launch} {G : k_G} {h : Nat} {σ : k_SB} {w : va_W} (hw : MW1 G h σ w) {o : Int32 × Int32} (hrun : fm_where  σ = some o) (sz : Nat) : k_Di l G yX13_where wsX13_where rm_X13_where [.ref h] w sz o.1 (MW1 G h (um_where σ o)) 0 0 := by
  obtain ⟨rv, a, rfl⟩ := hw
  exact k_framei (c_X13_where (l := l) (G := G) (sz := sz) (h_t := h) hrun) [0] rfl (by decide) (fun u => Nat.le_of_ble_eq_true rfl) (fun u => ⟨rv, a, rfl⟩)
abbrev fm_stack (p1 : Int32) (p2 : Int32) (σ : k_SB) : Option (Int32 × Int32 × Int32 × Int32) := f_X13_stack p1 p2 (σ.1 0) (σ.1 1) (σ.1 2) (σ.1 29) (σ.2.2.1 17)
abbrev um_stack (σ : k_SB) (o : Int32 × Int32 × Int32 × Int32) : k_SB := s_i (s_i (s_i σ 0 o.2.1) 1 o.2.2.1) 2 o.2.2.2
set_option maxRecDepth 100000 in
theorem lm_stack {l : Launch} {G : k_G} {h : Nat} {σ : k_SB} {w : va_W} (hw : MW1 G h σ w) {p1 : Int32} {p2 : Int32} {o : Int32 × Int32 × Int32 × Int32} (hrun : fm_stack p1 p2 σ = some o) (sz : Nat) : k_Di l G yX13_stack wsX13_stack rm_X13_stack [.ref h, .int p1, .int p2] w sz o.1 (MW1 G h (um_stack σ o)) 0 0 := by
  obtain ⟨rv, a, rfl⟩ := hw
  exact k_framei (c_X13_stack (l := l) (G := G) (sz := sz) (h_t := h) hrun) [0, 3, 20] rfl (by decide) (fun u => Nat.le_of_ble_eq_true rfl) (fun u => ⟨rv, a, rfl⟩)
abbrev fm_sum (p1 : Int32) (σ : k_SB) : Option (Int32 × Int32 × Int32 × Int32) := f_X13_sum p1 (σ.1 0) (σ.1 1) (σ.1 2) (σ.1 29) (σ.2.2.1 17)
abbrev um_sum (σ : k_SB) (o : Int32 × Int32 × Int32 × Int32) : k_SB := s_i (s_i (s_i σ 0 o.2.1) 1 o.2.2.1) 2 o.2.2.2
set_option maxRecDepth 100000 in
theorem lm_sum {l : Launch} {G : k_G} {h : Nat} {σ : k_SB} {w : va_W} (hw : MW1 G h σ w) {p1 : Int32} {o : Int32 × Int32 × Int32 × Int32} (hrun : fm_sum p1 σ = some o) (sz : Nat) : k_Di l G yX13_sum wsX13_sum rm_X13_sum [.ref h, .int p1] w sz o.1 (MW1 G h (um_sum σ o)) 0 0 := by
  obtain ⟨rv, a, rfl⟩ := hw
  exact k_framei (c_X13_sum (l := l) (G := G) (sz := sz) (h_t := h) hrun) [0, 3, 20] rfl (by decide) (fun u => Nat.le_of_ble_eq_true rfl) (fun u => ⟨rv, a, rfl⟩)
abbrev fm_layer (p1 : Int32) (p2 : Int32) (σ : k_SB) : Option (Int32 × Int32 × Int32 × Int32 × (Nat → Int32)) := f_X13_layer p1 p2 (σ.1 0) (σ.1 1) (σ.1 2) (σ.1 29) (σ.2.2.1 10) (σ.2.2.1 17)
abbrev um_layer (σ : k_SB) (o : Int32 × Int32 × Int32 × Int32 × (Nat → Int32)) : k_SB := s_a (s_i (s_i (s_i σ 0 o.2.1) 1 o.2.2.1) 2 o.2.2.2.1) 10 o.2.2.2.2
set_option maxRecDepth 100000 in
theorem lm_layer {l : Launch} {G : k_G} {h : Nat} {σ : k_SB} {w : va_W} (hw : MW1 G h σ w) {p1 : Int32} {p2 : Int32} {o : Int32 × Int32 × Int32 × Int32 × (Nat → Int32)} (hrun : fm_layer p1 p2 σ = some o) (sz : Nat) : k_Di l G yX13_layer wsX13_layer rm_X13_layer [.ref h, .int p1, .int p2] w sz o.1 (MW1 G h (um_layer σ o)) 0 0 := by
  obtain ⟨rv, a, rfl⟩ := hw
  exact k_framei (c_X13_layer (l := l) (G := G) (sz := sz) (h_t := h) hrun) [0, 3, 13, 20] rfl (by decide) (fun u => Nat.le_of_ble_eq_true rfl) (fun u => ⟨rv, a, rfl⟩)
abbrev fm_hex (p1 : Int32) (p2 : Int32) (σ : k_SB) : Option (Int32 × Int32 × Int32 × Int32) := f_X13_hex p1 p2 (σ.1 0) (σ.1 1) (σ.1 2) (σ.1 29) (σ.2.2.1 17)
abbrev um_hex (σ : k_SB) (o : Int32 × Int32 × Int32 × Int32) : k_SB := s_i (s_i (s_i σ 0 o.2.1) 1 o.2.2.1) 2 o.2.2.2
set_option maxRecDepth 100000 in
theorem lm_hex {l : Launch} {G : k_G} {h : Nat} {σ : k_SB} {w : va_W} (hw : MW1 G h σ w) {p1 : Int32} {p2 : Int32} {o : Int32 × Int32 × Int32 × Int32} (hrun : fm_hex p1 p2 σ = some o) (sz : Nat) : k_Di l G yX13_hex wsX13_hex rm_X13_hex [.ref h, .int p1, .int p2] w sz o.1 (MW1 G h (um_hex σ o)) 0 0 := by
  obtain ⟨rv, a, rfl⟩ := hw
  exact k_framei (c_X13_hex (l := l) (G := G) (sz := sz) (h_t := h) hrun) [0, 3, 20] rfl (by decide) (fun u => Nat.le_of_ble_eq_true rfl) (fun u => ⟨rv, a, rfl⟩)
abbrev fm_run (p1 : Int32) (p2 : Int32) (σ : k_SB) : Option (Int32 × Int32 × Int32 × Int32) := f_X13_run p1 p2 (σ.1 0) (σ.1 1) (σ.1 2) (σ.1 29) (σ.2.2.1 17)
abbrev um_run (σ : k_SB) (o : Int32 × Int32 × Int32 × Int32) : k_SB := s_i (s_i (s_i σ 0 o.2.1) 1 o.2.2.1) 2 o.2.2.2
set_option maxRecDepth 100000 in
theorem lm_run {l : Launch} {G : k_G} {h : Nat} {σ : k_SB} {w : va_W} (hw : MW1 G h σ w) {p1 : Int32} {p2 : Int32} {o : Int32 × Int32 × Int32 × Int32} (hrun : fm_run p1 p2 σ = some o) (sz : Nat) : k_Di l G yX13_run wsX13_run rm_X13_run [.ref h, .int p1, .int p2] w sz o.1 (MW1 G h (um_run σ o)) 0 0 := by
  obtain ⟨rv, a, rfl⟩ := hw
  exact k_framei (c_X13_run (l := l) (G := G) (sz := sz) (h_t := h) hrun) [0, 3, 20] rfl (by decide) (fun u => Nat.le_of_ble_eq_true rfl) (fun u => ⟨rv, a, rfl⟩)
abbrev fm_agree (p1 : Int32) (p2 : Int32) (σ : k_SB) : Option (Int32 × Int32 × Int32 × Int32 × (Nat → Int32)) := f_X13_agree p1 p2 (σ.1 0) (σ.1 1) (σ.1 2) (σ.1 29) (σ.2.2.1 10) (σ.2.2.1 17)
abbrev um_agree (σ : k_SB) (o : Int32 × Int32 × Int32 × Int32 × (Nat → Int32)) : k_SB := s_a (s_i (s_i (s_i σ 0 o.2.1) 1 o.2.2.1) 2 o.2.2.2.1) 10 o.2.2.2.2
set_option maxRecDepth 100000 in
theorem lm_agree {l : Launch} {G : k_G} {h : Nat} {σ : k_SB} {w : va_W} (hw : MW1 G h σ w) {p1 : Int32} {p2 : Int32} {o : Int32 × Int32 × Int32 × Int32 × (Nat → Int32)} (hrun : fm_agree p1 p2 σ = some o) (sz : Nat) : k_Di l G yX13_agree wsX13_agree rm_X13_agree [.ref h, .int p1, .int p2] w sz o.1 (MW1 G h (um_agree σ o)) 0 0 := by
  obtain ⟨rv, a, rfl⟩ := hw
  exact k_framei (c_X13_agree (l := l) (G := G) (sz := sz) (h_t := h) hrun) [0, 3, 13, 20] rfl (by decide) (fun u => Nat.le_of_ble_eq_true rfl) (fun u => ⟨rv, a, rfl⟩)
abbrev fm_share (p1 : Int32) (p2 : Int32) (σ : k_SB) : Option (Int64 × Int32 × Int32 × Int32) := f_X13_share p1 p2 (σ.1 0) (σ.1 1) (σ.1 2) (σ.1 29) (σ.2.2.1 17)
abbrev um_share (σ : k_SB) (o : Int64 × Int32 × Int32 × Int32) : k_SB := s_i (s_i (s_i σ 0 o.2.1) 1 o.2.2.1) 2 o.2.2.2
set_option maxRecDepth 100000 in
theorem lm_share {l : Launch} {G : k_G} {h : Nat} {σ : k_SB} {w : va_W} (hw : MW1 G h σ w) {p1 : Int32} {p2 : Int32} {o : Int64 × Int32 × Int32 × Int32} (hrun : fm_share p1 p2 σ = some o) (sz : Nat) : k_Dl l G yX13_share wsX13_share rm_X13_share [.ref h, .int p1, .int p2] w sz o.1 (MW1 G h (um_share σ o)) 0 0 := by
  obtain ⟨rv, a, rfl⟩ := hw
  exact k_framel (c_X13_share (l := l) (G := G) (sz := sz) (h_t := h) hrun) [0, 3, 20] rfl (by decide) (fun u => Nat.le_of_ble_eq_true rfl) (fun u => ⟨rv, a, rfl⟩)
abbrev fm_energy (p1 : Int32) (σ : k_SB) : Option (Int32 × Int32 × Int32 × Int32) := f_X13_energy p1 (σ.1 0) (σ.1 1) (σ.1 2) (σ.1 25) (σ.1 26) (σ.1 29) (σ.1 27) (σ.2.2.1 17)
abbrev um_energy (σ : k_SB) (o : Int32 × Int32 × Int32 × Int32) : k_SB := s_i (s_i (s_i σ 0 o.2.1) 1 o.2.2.1) 2 o.2.2.2
set_option maxRecDepth 100000 in
theorem lm_energy {l : Launch} {G : k_G} {h : Nat} {σ : k_SB} {w : va_W} (hw : MW1 G h σ w) {p1 : Int32} {o : Int32 × Int32 × Int32 × Int32} (hrun : fm_energy p1 σ = some o) (sz : Nat) : k_Di l G yX13_energy wsX13_energy rm_X13_energy [.ref h, .int p1] w sz o.1 (MW1 G h (um_energy σ o)) 0 0 := by
  obtain ⟨rv, a, rfl⟩ := hw
  exact k_framei (c_X13_energy (l := l) (G := G) (sz := sz) (h_t := h) hrun) [0, 3, 20] rfl (by decide) (fun u => Nat.le_of_ble_eq_true rfl) (fun u => ⟨rv, a, rfl⟩)
abbrev fm_calmest (σ : k_SB) : Option (Int32 × Int32 × Int32 × Int32) := f_X13_calmest  (σ.1 0) (σ.1 1) (σ.1 2) (σ.1 25) (σ.1 26) (σ.1 29) (σ.1 27) (σ.2.2.1 17)
abbrev um_calmest (σ : k_SB) (o : Int32 × Int32 × Int32 × Int32) : k_SB := s_i (s_i (s_i σ 0 o.2.1) 1 o.2.2.1) 2 o.2.2.2
set_option maxRecDepth 100000 in
theorem lm_calmest {l : Launch} {G : k_G} {h : Nat} {σ : k_SB} {w : va_W} (hw : MW1 G h σ w) {o : Int32 × Int32 × Int32 × Int32} (hrun : fm_calmest  σ = some o) (sz : Nat) : k_Di l G yX13_calmest wsX13_calmest rm_X13_calmest [.ref h] w sz o.1 (MW1 G h (um_calmest σ o)) 0 0 := by
  obtain ⟨rv, a, rfl⟩ := hw
  exact k_framei (c_X13_calmest (l := l) (G := G) (sz := sz) (h_t := h) hrun) [0, 3, 20] rfl (by decide) (fun u => Nat.le_of_ble_eq_true rfl) (fun u => ⟨rv, a, rfl⟩)
abbrev fm_out (p1 : Int32) (p2 : Int32) (σ : k_SB) : Option (Int32 × Int32 × Int32 × Int32 × (Nat → Int32) × (Nat → Int32) × (Nat → Int32)) := f_X13_out p1 p2 (σ.1 0) (σ.1 1) (σ.1 2) (σ.1 29) (σ.2.2.1 9) (σ.2.2.1 10) (σ.2.2.1 13) (σ.2.2.1 17)
abbrev um_out (σ : k_SB) (o : Int32 × Int32 × Int32 × Int32 × (Nat → Int32) × (Nat → Int32) × (Nat → Int32)) : k_SB := s_a (s_a (s_a (s_i (s_i (s_i σ 0 o.2.1) 1 o.2.2.1) 2 o.2.2.2.1) 9 o.2.2.2.2.1) 10 o.2.2.2.2.2.1) 13 o.2.2.2.2.2.2
set_option maxRecDepth 100000 in
theorem lm_out {l : Launch} {G : k_G} {h : Nat} {σ : k_SB} {w : va_W} (hw : MW1 G h σ w) {p1 : Int32} {p2 : Int32} {o : Int32 × Int32 × Int32 × Int32 × (Nat → Int32) × (Nat → Int32) × (Nat → Int32)} (hrun : fm_out p1 p2 σ = some o) (sz : Nat) : k_Di l G yX13_out wsX13_out rm_X13_out [.ref h, .int p1, .int p2] w sz o.1 (MW1 G h (um_out σ o)) 0 0 := by
  obtain ⟨rv, a, rfl⟩ := hw
  exact k_framei (c_X13_out (l := l) (G := G) (sz := sz) (h_t := h) hrun) [0, 3, 12, 13, 16, 20] rfl (by decide) (fun u => Nat.le_of_ble_eq_true rfl) (fun u => ⟨rv, a, rfl⟩)
abbrev fm_outs (p1 : Int32) (σ : k_SB) : Option (Int32 × Int32 × Int32 × Int32 × (Nat → Int32) × (Nat → Int32) × (Nat → Int32)) := f_X13_outs p1 (σ.1 0) (σ.1 1) (σ.1 2) (σ.1 29) (σ.2.2.1 9) (σ.2.2.1 10) (σ.2.2.1 13) (σ.2.2.1 17)
abbrev um_outs (σ : k_SB) (o : Int32 × Int32 × Int32 × Int32 × (Nat → Int32) × (Nat → Int32) × (Nat → Int32)) : k_SB := s_a (s_a (s_a (s_i (s_i (s_i σ 0 o.2.1) 1 o.2.2.1) 2 o.2.2.2.1) 9 o.2.2.2.2.1) 10 o.2.2.2.2.2.1) 13 o.2.2.2.2.2.2
set_option maxRecDepth 100000 in
theorem lm_outs {l : Launch} {G : k_G} {h : Nat} {σ : k_SB} {w : va_W} (hw : MW1 G h σ w) {p1 : Int32} {o : Int32 × Int32 × Int32 × Int32 × (Nat → Int32) × (Nat → Int32) × (Nat → Int32)} (hrun : fm_outs p1 σ = some o) (sz : Nat) : k_Di l G yX13_outs wsX13_outs rm_X13_outs [.ref h, .int p1] w sz o.1 (MW1 G h (um_outs σ o)) 0 0 := by
  obtain ⟨rv, a, rfl⟩ := hw
  exact k_framei (c_X13_outs (l := l) (G := G) (sz := sz) (h_t := h) hrun) [0, 3, 12, 13, 16, 20] rfl (by decide) (fun u => Nat.le_of_ble_eq_true rfl) (fun u => ⟨rv, a, rfl⟩)
abbrev fm_firstLine (p1 : Int32) (σ : k_SB) : Option (Int32 × Int32 × Int32 × Int32 × (Nat → Int32) × (Nat → Int32) × (Nat → Int32)) := f_X13_firstLine p1 (σ.1 0) (σ.1 1) (σ.1 2) (σ.1 29) (σ.2.2.1 9) (σ.2.2.1 10) (σ.2.2.1 13) (σ.2.2.1 17)
abbrev um_firstLine (σ : k_SB) (o : Int32 × Int32 × Int32 × Int32 × (Nat → Int32) × (Nat → Int32) × (Nat → Int32)) : k_SB := s_a (s_a (s_a (s_i (s_i (s_i σ 0 o.2.1) 1 o.2.2.1) 2 o.2.2.2.1) 9 o.2.2.2.2.1) 10 o.2.2.2.2.2.1) 13 o.2.2.2.2.2.2
set_option maxRecDepth 100000 in
theorem lm_firstLine {l : Launch} {G : k_G} {h : Nat} {σ : k_SB} {w : va_W} (hw : MW1 G h σ w) {p1 : Int32} {o : Int32 × Int32 × Int32 × Int32 × (Nat → Int32) × (Nat → Int32) × (Nat → Int32)} (hrun : fm_firstLine p1 σ = some o) (sz : Nat) : k_Di l G yX13_firstLine wsX13_firstLine rm_X13_firstLine [.ref h, .int p1] w sz o.1 (MW1 G h (um_firstLine σ o)) 0 0 := by
  obtain ⟨rv, a, rfl⟩ := hw
  exact k_framei (c_X13_firstLine (l := l) (G := G) (sz := sz) (h_t := h) hrun) [0, 3, 12, 13, 16, 20] rfl (by decide) (fun u => Nat.le_of_ble_eq_true rfl) (fun u => ⟨rv, a, rfl⟩)
abbrev fm_sameLines (p1 : Int32) (p2 : Int32) (σ : k_SB) : Option (Int32 × Int32 × Int32 × Int32 × (Nat → Int32) × (Nat → Int32) × (Nat → Int32)) := f_X13_sameLines p1 p2 (σ.1 0) (σ.1 1) (σ.1 2) (σ.1 29) (σ.2.2.1 9) (σ.2.2.1 10) (σ.2.2.1 13) (σ.2.2.1 17)
abbrev um_sameLines (σ : k_SB) (o : Int32 × Int32 × Int32 × Int32 × (Nat → Int32) × (Nat → Int32) × (Nat → Int32)) : k_SB := s_a (s_a (s_a (s_i (s_i (s_i σ 0 o.2.1) 1 o.2.2.1) 2 o.2.2.2.1) 9 o.2.2.2.2.1) 10 o.2.2.2.2.2.1) 13 o.2.2.2.2.2.2
set_option maxRecDepth 100000 in
theorem lm_sameLines {l : Launch} {G : k_G} {h : Nat} {σ : k_SB} {w : va_W} (hw : MW1 G h σ w) {p1 : Int32} {p2 : Int32} {o : Int32 × Int32 × Int32 × Int32 × (Nat → Int32) × (Nat → Int32) × (Nat → Int32)} (hrun : fm_sameLines p1 p2 σ = some o) (sz : Nat) : k_Di l G yX13_sameLines wsX13_sameLines rm_X13_sameLines [.ref h, .int p1, .int p2] w sz o.1 (MW1 G h (um_sameLines σ o)) 0 0 := by
  obtain ⟨rv, a, rfl⟩ := hw
  exact k_framei (c_X13_sameLines (l := l) (G := G) (sz := sz) (h_t := h) hrun) [0, 3, 12, 13, 16, 20] rfl (by decide) (fun u => Nat.le_of_ble_eq_true rfl) (fun u => ⟨rv, a, rfl⟩)
abbrev fm_differs (p1 : Int32) (p2 : Int32) (σ : k_SB) : Option (Int32 × Int32 × Int32 × Int32 × (Nat → Int32)) := f_X13_differs p1 p2 (σ.1 0) (σ.1 1) (σ.1 2) (σ.1 29) (σ.2.2.1 10) (σ.2.2.1 17)
abbrev um_differs (σ : k_SB) (o : Int32 × Int32 × Int32 × Int32 × (Nat → Int32)) : k_SB := s_a (s_i (s_i (s_i σ 0 o.2.1) 1 o.2.2.1) 2 o.2.2.2.1) 10 o.2.2.2.2
set_option maxRecDepth 100000 in
theorem lm_differs {l : Launch} {G : k_G} {h : Nat} {σ : k_SB} {w : va_W} (hw : MW1 G h σ w) {p1 : Int32} {p2 : Int32} {o : Int32 × Int32 × Int32 × Int32 × (Nat → Int32)} (hrun : fm_differs p1 p2 σ = some o) (sz : Nat) : k_Di l G yX13_differs wsX13_differs rm_X13_differs [.ref h, .int p1, .int p2] w sz o.1 (MW1 G h (um_differs σ o)) 0 0 := by
  obtain ⟨rv, a, rfl⟩ := hw
  exact k_framei (c_X13_differs (l := l) (G := G) (sz := sz) (h_t := h) hrun) [0, 3, 13, 20] rfl (by decide) (fun u => Nat.le_of_ble_eq_true rfl) (fun u => ⟨rv, a, rfl⟩)
abbrev fm_ground (p1 : Int32) (σ : k_SB) : Option (Int32 × Int32 × Int32 × Int32 × Int32 × Int32) := f_X13_ground p1 (σ.1 17) (σ.1 16) (σ.1 0) (σ.1 1) (σ.1 2) (σ.1 25) (σ.1 26) (σ.1 27)
abbrev um_ground (σ : k_SB) (o : Int32 × Int32 × Int32 × Int32 × Int32 × Int32) : k_SB := s_i (s_i (s_i (s_i (s_i σ 17 o.2.1) 16 o.2.2.1) 0 o.2.2.2.1) 1 o.2.2.2.2.1) 2 o.2.2.2.2.2
set_option maxRecDepth 100000 in
theorem lm_ground {l : Launch} {G : k_G} {h : Nat} {σ : k_SB} {w : va_W} (hw : MW1 G h σ w) {p1 : Int32} {o : Int32 × Int32 × Int32 × Int32 × Int32 × Int32} (hrun : fm_ground p1 σ = some o) (sz : Nat) : k_Di l G yX13_ground wsX13_ground rm_X13_ground [.ref h, .int p1] w sz o.1 (MW1 G h (um_ground σ o)) 0 0 := by
  obtain ⟨rv, a, rfl⟩ := hw
  exact k_framei (c_X13_ground (l := l) (G := G) (sz := sz) (h_t := h) hrun) [0, 3] rfl (by decide) (fun u => Nat.le_of_ble_eq_true rfl) (fun u => ⟨rv, a, rfl⟩)
abbrev fm_groundRow (p1 : Int32) (σ : k_SB) : Option (Int32 × Int32 × Int32 × Int32 × Int32 × Int32) := f_X13_groundRow p1 (σ.1 17) (σ.1 16) (σ.1 0) (σ.1 1) (σ.1 2) (σ.1 25) (σ.1 26) (σ.1 27)
abbrev um_groundRow (σ : k_SB) (o : Int32 × Int32 × Int32 × Int32 × Int32 × Int32) : k_SB := s_i (s_i (s_i (s_i (s_i σ 17 o.2.1) 16 o.2.2.1) 0 o.2.2.2.1) 1 o.2.2.2.2.1) 2 o.2.2.2.2.2
set_option maxRecDepth 100000 in
theorem lm_groundRow {l : Launch} {G : k_G} {h : Nat} {σ : k_SB} {w : va_W} (hw : MW1 G h σ w) {p1 : Int32} {o : Int32 × Int32 × Int32 × Int32 × Int32 × Int32} (hrun : fm_groundRow p1 σ = some o) (sz : Nat) : k_Di l G yX13_groundRow wsX13_groundRow rm_X13_groundRow [.ref h, .int p1] w sz o.1 (MW1 G h (um_groundRow σ o)) 0 0 := by
  obtain ⟨rv, a, rfl⟩ := hw
  exact k_framei (c_X13_groundRow (l := l) (G := G) (sz := sz) (h_t := h) hrun) [0, 3] rfl (by decide) (fun u => Nat.le_of_ble_eq_true rfl) (fun u => ⟨rv, a, rfl⟩)
abbrev fm_groundMany (p1 : Int32) (σ : k_SB) : Option (Int32 × Int32 × Int32 × Int32 × Int32 × Int32) := f_X13_groundMany p1 (σ.1 17) (σ.1 16) (σ.1 0) (σ.1 1) (σ.1 2) (σ.1 25) (σ.1 26) (σ.1 27)
abbrev um_groundMany (σ : k_SB) (o : Int32 × Int32 × Int32 × Int32 × Int32 × Int32) : k_SB := s_i (s_i (s_i (s_i (s_i σ 17 o.2.1) 16 o.2.2.1) 0 o.2.2.2.1) 1 o.2.2.2.2.1) 2 o.2.2.2.2.2
set_option maxRecDepth 100000 in
theorem lm_groundMany {l : Launch} {G : k_G} {h : Nat} {σ : k_SB} {w : va_W} (hw : MW1 G h σ w) {p1 : Int32} {o : Int32 × Int32 × Int32 × Int32 × Int32 × Int32} (hrun : fm_groundMany p1 σ = some o) (sz : Nat) : k_Di l G yX13_groundMany wsX13_groundMany rm_X13_groundMany [.ref h, .int p1] w sz o.1 (MW1 G h (um_groundMany σ o)) 0 0 := by
  obtain ⟨rv, a, rfl⟩ := hw
  exact k_framei (c_X13_groundMany (l := l) (G := G) (sz := sz) (h_t := h) hrun) [0, 3] rfl (by decide) (fun u => Nat.le_of_ble_eq_true rfl) (fun u => ⟨rv, a, rfl⟩)
abbrev fm_groundBest (σ : k_SB) : Option (Int32 × Int32 × Int32 × Int32 × Int32 × Int32) := f_X13_groundBest  (σ.1 17) (σ.1 16) (σ.1 0) (σ.1 1) (σ.1 2) (σ.1 25) (σ.1 26) (σ.1 27)
abbrev um_groundBest (σ : k_SB) (o : Int32 × Int32 × Int32 × Int32 × Int32 × Int32) : k_SB := s_i (s_i (s_i (s_i (s_i σ 17 o.2.1) 16 o.2.2.1) 0 o.2.2.2.1) 1 o.2.2.2.2.1) 2 o.2.2.2.2.2
set_option maxRecDepth 100000 in
theorem lm_groundBest {l : Launch} {G : k_G} {h : Nat} {σ : k_SB} {w : va_W} (hw : MW1 G h σ w) {o : Int32 × Int32 × Int32 × Int32 × Int32 × Int32} (hrun : fm_groundBest  σ = some o) (sz : Nat) : k_Di l G yX13_groundBest wsX13_groundBest rm_X13_groundBest [.ref h] w sz o.1 (MW1 G h (um_groundBest σ o)) 0 0 := by
  obtain ⟨rv, a, rfl⟩ := hw
  exact k_framei (c_X13_groundBest (l := l) (G := G) (sz := sz) (h_t := h) hrun) [0, 3] rfl (by decide) (fun u => Nat.le_of_ble_eq_true rfl) (fun u => ⟨rv, a, rfl⟩)
abbrev fm_kinds (p1 : Int32) (p2 : Int32) (p3 : Int32) (σ : k_SB) : Option (Int32 × Int32 × Int32 × Int32) := f_X13_kinds p1 p2 p3 (σ.1 0) (σ.1 1) (σ.1 2)
abbrev um_kinds (σ : k_SB) (o : Int32 × Int32 × Int32 × Int32) : k_SB := s_i (s_i (s_i σ 0 o.2.1) 1 o.2.2.1) 2 o.2.2.2
set_option maxRecDepth 100000 in
theorem lm_kinds {l : Launch} {G : k_G} {h : Nat} {σ : k_SB} {w : va_W} (hw : MW1 G h σ w) {p1 : Int32} {p2 : Int32} {p3 : Int32} {o : Int32 × Int32 × Int32 × Int32} (hrun : fm_kinds p1 p2 p3 σ = some o) (sz : Nat) : k_Di l G yX13_kinds wsX13_kinds rm_X13_kinds [.ref h, .int p1, .int p2, .int p3] w sz o.1 (MW1 G h (um_kinds σ o)) 0 0 := by
  obtain ⟨rv, a, rfl⟩ := hw
  exact k_framei (c_X13_kinds (l := l) (G := G) (sz := sz) (h_t := h) hrun) [0] rfl (by decide) (fun u => Nat.le_of_ble_eq_true rfl) (fun u => ⟨rv, a, rfl⟩)
abbrev fm_alike (p1 : Int32) (p2 : Int32) (p3 : Int32) (σ : k_SB) : Option (Int32 × Int32 × Int32 × Int32) := f_X13_alike p1 p2 p3 (σ.1 0) (σ.1 1) (σ.1 2) (σ.1 29) (σ.2.2.1 17)
abbrev um_alike (σ : k_SB) (o : Int32 × Int32 × Int32 × Int32) : k_SB := s_i (s_i (s_i σ 0 o.2.1) 1 o.2.2.1) 2 o.2.2.2
set_option maxRecDepth 100000 in
theorem lm_alike {l : Launch} {G : k_G} {h : Nat} {σ : k_SB} {w : va_W} (hw : MW1 G h σ w) {p1 : Int32} {p2 : Int32} {p3 : Int32} {o : Int32 × Int32 × Int32 × Int32} (hrun : fm_alike p1 p2 p3 σ = some o) (sz : Nat) : k_Di l G yX13_alike wsX13_alike rm_X13_alike [.ref h, .int p1, .int p2, .int p3] w sz o.1 (MW1 G h (um_alike σ o)) 0 0 := by
  obtain ⟨rv, a, rfl⟩ := hw
  exact k_framei (c_X13_alike (l := l) (G := G) (sz := sz) (h_t := h) hrun) [0, 3, 20] rfl (by decide) (fun u => Nat.le_of_ble_eq_true rfl) (fun u => ⟨rv, a, rfl⟩)
abbrev fm_least (p1 : Int32) (p2 : Int32) (σ : k_SB) : Option (Int32 × Int32 × Int32 × Int32) := f_X13_least p1 p2 (σ.1 0) (σ.1 1) (σ.1 2) (σ.1 29) (σ.2.2.1 17)
abbrev um_least (σ : k_SB) (o : Int32 × Int32 × Int32 × Int32) : k_SB := s_i (s_i (s_i σ 0 o.2.1) 1 o.2.2.1) 2 o.2.2.2
set_option maxRecDepth 100000 in
theorem lm_least {l : Launch} {G : k_G} {h : Nat} {σ : k_SB} {w : va_W} (hw : MW1 G h σ w) {p1 : Int32} {p2 : Int32} {o : Int32 × Int32 × Int32 × Int32} (hrun : fm_least p1 p2 σ = some o) (sz : Nat) : k_Di l G yX13_least wsX13_least rm_X13_least [.ref h, .int p1, .int p2] w sz o.1 (MW1 G h (um_least σ o)) 0 0 := by
  obtain ⟨rv, a, rfl⟩ := hw
  exact k_framei (c_X13_least (l := l) (G := G) (sz := sz) (h_t := h) hrun) [0, 3, 20] rfl (by decide) (fun u => Nat.le_of_ble_eq_true rfl) (fun u => ⟨rv, a, rfl⟩)
abbrev fm_manyAlike (p1 : Int32) (p2 : Int32) (σ : k_SB) : Option (Int32 × Int32 × Int32 × Int32) := f_X13_manyAlike p1 p2 (σ.1 0) (σ.1 1) (σ.1 2) (σ.1 29) (σ.2.2.1 17)
abbrev um_manyAlike (σ : k_SB) (o : Int32 × Int32 × Int32 × Int32) : k_SB := s_i (s_i (s_i σ 0 o.2.1) 1 o.2.2.1) 2 o.2.2.2
set_option maxRecDepth 100000 in
theorem lm_manyAlike {l : Launch} {G : k_G} {h : Nat} {σ : k_SB} {w : va_W} (hw : MW1 G h σ w) {p1 : Int32} {p2 : Int32} {o : Int32 × Int32 × Int32 × Int32} (hrun : fm_manyAlike p1 p2 σ = some o) (sz : Nat) : k_Di l G yX13_manyAlike wsX13_manyAlike rm_X13_manyAlike [.ref h, .int p1, .int p2] w sz o.1 (MW1 G h (um_manyAlike σ o)) 0 0 := by
  obtain ⟨rv, a, rfl⟩ := hw
  exact k_framei (c_X13_manyAlike (l := l) (G := G) (sz := sz) (h_t := h) hrun) [0, 3, 20] rfl (by decide) (fun u => Nat.le_of_ble_eq_true rfl) (fun u => ⟨rv, a, rfl⟩)
abbrev fm_slips (p1 : Int32) (p2 : Int32) (p3 : Int32) (σ : k_SB) : Option (Int32 × Int32 × Int32 × Int32) := f_X13_slips p1 p2 p3 (σ.1 0) (σ.1 1) (σ.1 2) (σ.1 29) (σ.2.2.1 17)
abbrev um_slips (σ : k_SB) (o : Int32 × Int32 × Int32 × Int32) : k_SB := s_i (s_i (s_i σ 0 o.2.1) 1 o.2.2.1) 2 o.2.2.2
set_option maxRecDepth 100000 in
theorem lm_slips {l : Launch} {G : k_G} {h : Nat} {σ : k_SB} {w : va_W} (hw : MW1 G h σ w) {p1 : Int32} {p2 : Int32} {p3 : Int32} {o : Int32 × Int32 × Int32 × Int32} (hrun : fm_slips p1 p2 p3 σ = some o) (sz : Nat) : k_Di l G yX13_slips wsX13_slips rm_X13_slips [.ref h, .int p1, .int p2, .int p3] w sz o.1 (MW1 G h (um_slips σ o)) 0 0 := by
  obtain ⟨rv, a, rfl⟩ := hw
  exact k_framei (c_X13_slips (l := l) (G := G) (sz := sz) (h_t := h) hrun) [0, 3, 20] rfl (by decide) (fun u => Nat.le_of_ble_eq_true rfl) (fun u => ⟨rv, a, rfl⟩)
abbrev fm_slipEnergy (p1 : Int32) (p2 : Int32) (σ : k_SB) : Option (Int32 × Int32 × Int32 × Int32) := f_X13_slipEnergy p1 p2 (σ.1 0) (σ.1 1) (σ.1 2) (σ.1 25) (σ.1 26) (σ.1 29) (σ.1 27) (σ.2.2.1 17)
abbrev um_slipEnergy (σ : k_SB) (o : Int32 × Int32 × Int32 × Int32) : k_SB := s_i (s_i (s_i σ 0 o.2.1) 1 o.2.2.1) 2 o.2.2.2
set_option maxRecDepth 100000 in
theorem lm_slipEnergy {l : Launch} {G : k_G} {h : Nat} {σ : k_SB} {w : va_W} (hw : MW1 G h σ w) {p1 : Int32} {p2 : Int32} {o : Int32 × Int32 × Int32 × Int32} (hrun : fm_slipEnergy p1 p2 σ = some o) (sz : Nat) : k_Di l G yX13_slipEnergy wsX13_slipEnergy rm_X13_slipEnergy [.ref h, .int p1, .int p2] w sz o.1 (MW1 G h (um_slipEnergy σ o)) 0 0 := by
  obtain ⟨rv, a, rfl⟩ := hw
  exact k_framei (c_X13_slipEnergy (l := l) (G := G) (sz := sz) (h_t := h) hrun) [0, 3, 20] rfl (by decide) (fun u => Nat.le_of_ble_eq_true rfl) (fun u => ⟨rv, a, rfl⟩)
abbrev fm_weakest (p1 : Int32) (σ : k_SB) : Option (Int32 × Int32 × Int32 × Int32) := f_X13_weakest p1 (σ.1 0) (σ.1 1) (σ.1 2) (σ.1 25) (σ.1 26) (σ.1 29) (σ.1 27) (σ.2.2.1 17)
abbrev um_weakest (σ : k_SB) (o : Int32 × Int32 × Int32 × Int32) : k_SB := s_i (s_i (s_i σ 0 o.2.1) 1 o.2.2.1) 2 o.2.2.2
set_option maxRecDepth 100000 in
theorem lm_weakest {l : Launch} {G : k_G} {h : Nat} {σ : k_SB} {w : va_W} (hw : MW1 G h σ w) {p1 : Int32} {o : Int32 × Int32 × Int32 × Int32} (hrun : fm_weakest p1 σ = some o) (sz : Nat) : k_Di l G yX13_weakest wsX13_weakest rm_X13_weakest [.ref h, .int p1] w sz o.1 (MW1 G h (um_weakest σ o)) 0 0 := by
  obtain ⟨rv, a, rfl⟩ := hw
  exact k_framei (c_X13_weakest (l := l) (G := G) (sz := sz) (h_t := h) hrun) [0, 3, 20] rfl (by decide) (fun u => Nat.le_of_ble_eq_true rfl) (fun u => ⟨rv, a, rfl⟩)
abbrev fm_faultEnergy (p1 : Int32) (p2 : Int32) (σ : k_SB) : Option (Int32 × Int32 × Int32 × Int32) := f_X13_faultEnergy p1 p2 (σ.1 0) (σ.1 1) (σ.1 2) (σ.1 25) (σ.1 26) (σ.1 29) (σ.1 27) (σ.2.2.1 17)
abbrev um_faultEnergy (σ : k_SB) (o : Int32 × Int32 × Int32 × Int32) : k_SB := s_i (s_i (s_i σ 0 o.2.1) 1 o.2.2.1) 2 o.2.2.2
set_option maxRecDepth 100000 in
theorem lm_faultEnergy {l : Launch} {G : k_G} {h : Nat} {σ : k_SB} {w : va_W} (hw : MW1 G h σ w) {p1 : Int32} {p2 : Int32} {o : Int32 × Int32 × Int32 × Int32} (hrun : fm_faultEnergy p1 p2 σ = some o) (sz : Nat) : k_Di l G yX13_faultEnergy wsX13_faultEnergy rm_X13_faultEnergy [.ref h, .int p1, .int p2] w sz o.1 (MW1 G h (um_faultEnergy σ o)) 0 0 := by
  obtain ⟨rv, a, rfl⟩ := hw
  exact k_framei (c_X13_faultEnergy (l := l) (G := G) (sz := sz) (h_t := h) hrun) [0, 3, 20] rfl (by decide) (fun u => Nat.le_of_ble_eq_true rfl) (fun u => ⟨rv, a, rfl⟩)
abbrev fm_bestFault (p1 : Int32) (σ : k_SB) : Option (Int32 × Int32 × Int32 × Int32) := f_X13_bestFault p1 (σ.1 0) (σ.1 1) (σ.1 2) (σ.1 25) (σ.1 26) (σ.1 29) (σ.1 27) (σ.2.2.1 17)
abbrev um_bestFault (σ : k_SB) (o : Int32 × Int32 × Int32 × Int32) : k_SB := s_i (s_i (s_i σ 0 o.2.1) 1 o.2.2.1) 2 o.2.2.2
set_option maxRecDepth 100000 in
theorem lm_bestFault {l : Launch} {G : k_G} {h : Nat} {σ : k_SB} {w : va_W} (hw : MW1 G h σ w) {p1 : Int32} {o : Int32 × Int32 × Int32 × Int32} (hrun : fm_bestFault p1 σ = some o) (sz : Nat) : k_Di l G yX13_bestFault wsX13_bestFault rm_X13_bestFault [.ref h, .int p1] w sz o.1 (MW1 G h (um_bestFault σ o)) 0 0 := by
  obtain ⟨rv, a, rfl⟩ := hw
  exact k_framei (c_X13_bestFault (l := l) (G := G) (sz := sz) (h_t := h) hrun) [0, 3, 20] rfl (by decide) (fun u => Nat.le_of_ble_eq_true rfl) (fun u => ⟨rv, a, rfl⟩)
abbrev fm_relax (p1 : Int32) (σ : k_SB) : Option (Int32 × Int32 × Int32 × Int32 × Int32) := f_X13_relax p1 (σ.1 18) (σ.1 0) (σ.1 1) (σ.1 2) (σ.1 25) (σ.1 26) (σ.1 29) (σ.1 27) (σ.2.2.1 17)
abbrev um_relax (σ : k_SB) (o : Int32 × Int32 × Int32 × Int32 × Int32) : k_SB := s_i (s_i (s_i (s_i σ 18 o.2.1) 0 o.2.2.1) 1 o.2.2.2.1) 2 o.2.2.2.2
set_option maxRecDepth 100000 in
theorem lm_relax {l : Launch} {G : k_G} {h : Nat} {σ : k_SB} {w : va_W} (hw : MW1 G h σ w) {p1 : Int32} {o : Int32 × Int32 × Int32 × Int32 × Int32} (hrun : fm_relax p1 σ = some o) (sz : Nat) : k_Di l G yX13_relax wsX13_relax rm_X13_relax [.ref h, .int p1] w sz o.1 (MW1 G h (um_relax σ o)) 0 0 := by
  obtain ⟨rv, a, rfl⟩ := hw
  exact k_framei (c_X13_relax (l := l) (G := G) (sz := sz) (h_t := h) hrun) [0, 3, 20] rfl (by decide) (fun u => Nat.le_of_ble_eq_true rfl) (fun u => ⟨rv, a, rfl⟩)
abbrev fm_relaxed (p1 : Int32) (σ : k_SB) : Option (Int32 × Int32 × Int32 × Int32 × Int32) := f_X13_relaxed p1 (σ.1 18) (σ.1 0) (σ.1 1) (σ.1 2) (σ.1 25) (σ.1 26) (σ.1 29) (σ.1 27) (σ.2.2.1 17)
abbrev um_relaxed (σ : k_SB) (o : Int32 × Int32 × Int32 × Int32 × Int32) : k_SB := s_i (s_i (s_i (s_i σ 18 o.2.1) 0 o.2.2.1) 1 o.2.2.2.1) 2 o.2.2.2.2
set_option maxRecDepth 100000 in
theorem lm_relaxed {l : Launch} {G : k_G} {h : Nat} {σ : k_SB} {w : va_W} (hw : MW1 G h σ w) {p1 : Int32} {o : Int32 × Int32 × Int32 × Int32 × Int32} (hrun : fm_relaxed p1 σ = some o) (sz : Nat) : k_Di l G yX13_relaxed wsX13_relaxed rm_X13_relaxed [.ref h, .int p1] w sz o.1 (MW1 G h (um_relaxed σ o)) 0 0 := by
  obtain ⟨rv, a, rfl⟩ := hw
  exact k_framei (c_X13_relaxed (l := l) (G := G) (sz := sz) (h_t := h) hrun) [0, 3, 20] rfl (by decide) (fun u => Nat.le_of_ble_eq_true rfl) (fun u => ⟨rv, a, rfl⟩)
abbrev fm_pass (p1 : Int32) (p2 : Int32) (σ : k_SB) : Option (Int32 × Int32 × Int32 × Int32 × (Nat → Int32) × (Nat → Int32) × (Nat → Int32)) := f_X13_pass p1 p2 (σ.1 0) (σ.1 1) (σ.1 2) (σ.1 25) (σ.1 26) (σ.1 29) (σ.1 27) (σ.2.2.1 0) (σ.2.2.1 11) (σ.2.2.1 15) (σ.2.2.1 17)
abbrev um_pass (σ : k_SB) (o : Int32 × Int32 × Int32 × Int32 × (Nat → Int32) × (Nat → Int32) × (Nat → Int32)) : k_SB := s_a (s_a (s_a (s_i (s_i (s_i σ 0 o.2.1) 1 o.2.2.1) 2 o.2.2.2.1) 0 o.2.2.2.2.1) 11 o.2.2.2.2.2.1) 15 o.2.2.2.2.2.2
set_option maxRecDepth 100000 in
theorem lm_pass {l : Launch} {G : k_G} {h : Nat} {σ : k_SB} {w : va_W} (hw : MW1 G h σ w) {p1 : Int32} {p2 : Int32} {o : Int32 × Int32 × Int32 × Int32 × (Nat → Int32) × (Nat → Int32) × (Nat → Int32)} (hrun : fm_pass p1 p2 σ = some o) (sz : Nat) : k_Di l G yX13_pass wsX13_pass rm_X13_pass [.ref h, .int p1, .int p2] w sz o.1 (MW1 G h (um_pass σ o)) 0 0 := by
  obtain ⟨rv, a, rfl⟩ := hw
  exact k_framei (c_X13_pass (l := l) (G := G) (sz := sz) (h_t := h) hrun) [0, 1, 3, 14, 18, 20] rfl (by decide) (fun u => Nat.le_of_ble_eq_true rfl) (fun u => ⟨rv, a, rfl⟩)
abbrev fm_valley (p1 : Int32) (σ : k_SB) : Option (Int32 × Int32 × Int32 × Int32 × (Nat → Int32) × (Nat → Int32) × (Nat → Int32)) := f_X13_valley p1 (σ.1 0) (σ.1 1) (σ.1 2) (σ.1 25) (σ.1 26) (σ.1 29) (σ.1 27) (σ.2.2.1 0) (σ.2.2.1 11) (σ.2.2.1 15) (σ.2.2.1 17)
abbrev um_valley (σ : k_SB) (o : Int32 × Int32 × Int32 × Int32 × (Nat → Int32) × (Nat → Int32) × (Nat → Int32)) : k_SB := s_a (s_a (s_a (s_i (s_i (s_i σ 0 o.2.1) 1 o.2.2.1) 2 o.2.2.2.1) 0 o.2.2.2.2.1) 11 o.2.2.2.2.2.1) 15 o.2.2.2.2.2.2
set_option maxRecDepth 100000 in
theorem lm_valley {l : Launch} {G : k_G} {h : Nat} {σ : k_SB} {w : va_W} (hw : MW1 G h σ w) {p1 : Int32} {o : Int32 × Int32 × Int32 × Int32 × (Nat → Int32) × (Nat → Int32) × (Nat → Int32)} (hrun : fm_valley p1 σ = some o) (sz : Nat) : k_Di l G yX13_valley wsX13_valley rm_X13_valley [.ref h, .int p1] w sz o.1 (MW1 G h (um_valley σ o)) 0 0 := by
  obtain ⟨rv, a, rfl⟩ := hw
  exact k_framei (c_X13_valley (l := l) (G := G) (sz := sz) (h_t := h) hrun) [0, 1, 3, 14, 18, 20] rfl (by decide) (fun u => Nat.le_of_ble_eq_true rfl) (fun u => ⟨rv, a, rfl⟩)
abbrev fm_fits (σ : k_SB) : Option (Int32 × Int32 × Int32 × Int32 × Int32 × Int32 × Int32 × (Nat → Int32) × (Nat → Int32)) := f_X13_fits  (σ.1 21) (σ.1 19) (σ.1 20) (σ.1 0) (σ.1 1) (σ.1 2) (σ.1 31) (σ.1 30) (σ.2.2.1 2) (σ.2.2.1 3) (σ.2.2.1 4) (σ.2.2.1 5) (σ.2.2.1 6) (σ.2.2.1 7) (σ.2.2.1 8) (σ.2.2.1 10) (σ.2.2.1 12)
abbrev um_fits (σ : k_SB) (o : Int32 × Int32 × Int32 × Int32 × Int32 × Int32 × Int32 × (Nat → Int32) × (Nat → Int32)) : k_SB := s_a (s_a (s_i (s_i (s_i (s_i (s_i (s_i σ 21 o.2.1) 19 o.2.2.1) 20 o.2.2.2.1) 0 o.2.2.2.2.1) 1 o.2.2.2.2.2.1) 2 o.2.2.2.2.2.2.1) 10 o.2.2.2.2.2.2.2.1) 12 o.2.2.2.2.2.2.2.2
set_option maxRecDepth 100000 in
theorem lm_fits {l : Launch} {G : k_G} {h : Nat} {σ : k_SB} {w : va_W} (hw : MW1 G h σ w) {o : Int32 × Int32 × Int32 × Int32 × Int32 × Int32 × Int32 × (Nat → Int32) × (Nat → Int32)} (hrun : fm_fits  σ = some o) (sz : Nat) : k_Di l G yX13_fits wsX13_fits rm_X13_fits [.ref h] w sz o.1 (MW1 G h (um_fits σ o)) 0 0 := by
  obtain ⟨rv, a, rfl⟩ := hw
  exact k_framei (c_X13_fits (l := l) (G := G) (sz := sz) (h_t := h) hrun) [0, 3, 4, 5, 6, 8, 9, 10, 11, 13, 15] rfl (by decide) (fun u => Nat.le_of_ble_eq_true rfl) (fun u => ⟨rv, a, rfl⟩)
abbrev fm_fitAt (p1 : Int32) (σ : k_SB) : Option (Int32 × Int32 × Int32 × Int32 × Int32 × Int32 × Int32 × (Nat → Int32) × (Nat → Int32)) := f_X13_fitAt p1 (σ.1 21) (σ.1 19) (σ.1 20) (σ.1 0) (σ.1 1) (σ.1 2) (σ.1 31) (σ.1 30) (σ.2.2.1 2) (σ.2.2.1 3) (σ.2.2.1 4) (σ.2.2.1 5) (σ.2.2.1 6) (σ.2.2.1 7) (σ.2.2.1 8) (σ.2.2.1 10) (σ.2.2.1 12)
abbrev um_fitAt (σ : k_SB) (o : Int32 × Int32 × Int32 × Int32 × Int32 × Int32 × Int32 × (Nat → Int32) × (Nat → Int32)) : k_SB := s_a (s_a (s_i (s_i (s_i (s_i (s_i (s_i σ 21 o.2.1) 19 o.2.2.1) 20 o.2.2.2.1) 0 o.2.2.2.2.1) 1 o.2.2.2.2.2.1) 2 o.2.2.2.2.2.2.1) 10 o.2.2.2.2.2.2.2.1) 12 o.2.2.2.2.2.2.2.2
set_option maxRecDepth 100000 in
theorem lm_fitAt {l : Launch} {G : k_G} {h : Nat} {σ : k_SB} {w : va_W} (hw : MW1 G h σ w) {p1 : Int32} {o : Int32 × Int32 × Int32 × Int32 × Int32 × Int32 × Int32 × (Nat → Int32) × (Nat → Int32)} (hrun : fm_fitAt p1 σ = some o) (sz : Nat) : k_Di l G yX13_fitAt wsX13_fitAt rm_X13_fitAt [.ref h, .int p1] w sz o.1 (MW1 G h (um_fitAt σ o)) 0 0 := by
  obtain ⟨rv, a, rfl⟩ := hw
  exact k_framei (c_X13_fitAt (l := l) (G := G) (sz := sz) (h_t := h) hrun) [0, 3, 4, 5, 6, 8, 9, 10, 11, 13, 15] rfl (by decide) (fun u => Nat.le_of_ble_eq_true rfl) (fun u => ⟨rv, a, rfl⟩)
abbrev fm_could (σ : k_SB) : Option (Int32 × Int32 × Int32 × Int32 × Int32 × Int32 × Int32 × (Nat → Int32) × (Nat → Int32)) := f_X13_could  (σ.1 21) (σ.1 19) (σ.1 20) (σ.1 0) (σ.1 1) (σ.1 2) (σ.1 31) (σ.1 30) (σ.2.2.1 2) (σ.2.2.1 3) (σ.2.2.1 4) (σ.2.2.1 5) (σ.2.2.1 6) (σ.2.2.1 7) (σ.2.2.1 8) (σ.2.2.1 10) (σ.2.2.1 12)
abbrev um_could (σ : k_SB) (o : Int32 × Int32 × Int32 × Int32 × Int32 × Int32 × Int32 × (Nat → Int32) × (Nat → Int32)) : k_SB := s_a (s_a (s_i (s_i (s_i (s_i (s_i (s_i σ 21 o.2.1) 19 o.2.2.1) 20 o.2.2.2.1) 0 o.2.2.2.2.1) 1 o.2.2.2.2.2.1) 2 o.2.2.2.2.2.2.1) 10 o.2.2.2.2.2.2.2.1) 12 o.2.2.2.2.2.2.2.2
set_option maxRecDepth 100000 in
theorem lm_could {l : Launch} {G : k_G} {h : Nat} {σ : k_SB} {w : va_W} (hw : MW1 G h σ w) {o : Int32 × Int32 × Int32 × Int32 × Int32 × Int32 × Int32 × (Nat → Int32) × (Nat → Int32)} (hrun : fm_could  σ = some o) (sz : Nat) : k_Di l G yX13_could wsX13_could rm_X13_could [.ref h] w sz o.1 (MW1 G h (um_could σ o)) 0 0 := by
  obtain ⟨rv, a, rfl⟩ := hw
  exact k_framei (c_X13_could (l := l) (G := G) (sz := sz) (h_t := h) hrun) [0, 3, 4, 5, 6, 8, 9, 10, 11, 13, 15] rfl (by decide) (fun u => Nat.le_of_ble_eq_true rfl) (fun u => ⟨rv, a, rfl⟩)
abbrev fm_surely (σ : k_SB) : Option (Int32 × Int32 × Int32 × Int32 × Int32 × Int32 × Int32 × (Nat → Int32) × (Nat → Int32)) := f_X13_surely  (σ.1 21) (σ.1 19) (σ.1 20) (σ.1 0) (σ.1 1) (σ.1 2) (σ.1 31) (σ.1 30) (σ.2.2.1 2) (σ.2.2.1 3) (σ.2.2.1 4) (σ.2.2.1 5) (σ.2.2.1 6) (σ.2.2.1 7) (σ.2.2.1 8) (σ.2.2.1 10) (σ.2.2.1 12)
abbrev um_surely (σ : k_SB) (o : Int32 × Int32 × Int32 × Int32 × Int32 × Int32 × Int32 × (Nat → Int32) × (Nat → Int32)) : k_SB := s_a (s_a (s_i (s_i (s_i (s_i (s_i (s_i σ 21 o.2.1) 19 o.2.2.1) 20 o.2.2.2.1) 0 o.2.2.2.2.1) 1 o.2.2.2.2.2.1) 2 o.2.2.2.2.2.2.1) 10 o.2.2.2.2.2.2.2.1) 12 o.2.2.2.2.2.2.2.2
set_option maxRecDepth 100000 in
theorem lm_surely {l : Launch} {G : k_G} {h : Nat} {σ : k_SB} {w : va_W} (hw : MW1 G h σ w) {o : Int32 × Int32 × Int32 × Int32 × Int32 × Int32 × Int32 × (Nat → Int32) × (Nat → Int32)} (hrun : fm_surely  σ = some o) (sz : Nat) : k_Di l G yX13_surely wsX13_surely rm_X13_surely [.ref h] w sz o.1 (MW1 G h (um_surely σ o)) 0 0 := by
  obtain ⟨rv, a, rfl⟩ := hw
  exact k_framei (c_X13_surely (l := l) (G := G) (sz := sz) (h_t := h) hrun) [0, 3, 4, 5, 6, 8, 9, 10, 11, 13, 15] rfl (by decide) (fun u => Nat.le_of_ble_eq_true rfl) (fun u => ⟨rv, a, rfl⟩)
abbrev fm_ask (σ : k_SB) : Option (Int32 × Int32 × Int32 × Int32 × Int32 × Int32 × Int32 × Int32 × (Nat → Int32) × (Nat → Int32)) := f_X13_ask  (σ.1 22) (σ.1 21) (σ.1 19) (σ.1 20) (σ.1 0) (σ.1 1) (σ.1 2) (σ.1 31) (σ.1 30) (σ.2.2.1 2) (σ.2.2.1 3) (σ.2.2.1 4) (σ.2.2.1 5) (σ.2.2.1 6) (σ.2.2.1 7) (σ.2.2.1 8) (σ.2.2.1 10) (σ.2.2.1 12)
abbrev um_ask (σ : k_SB) (o : Int32 × Int32 × Int32 × Int32 × Int32 × Int32 × Int32 × Int32 × (Nat → Int32) × (Nat → Int32)) : k_SB := s_a (s_a (s_i (s_i (s_i (s_i (s_i (s_i (s_i σ 22 o.2.1) 21 o.2.2.1) 19 o.2.2.2.1) 20 o.2.2.2.2.1) 0 o.2.2.2.2.2.1) 1 o.2.2.2.2.2.2.1) 2 o.2.2.2.2.2.2.2.1) 10 o.2.2.2.2.2.2.2.2.1) 12 o.2.2.2.2.2.2.2.2.2
set_option maxRecDepth 100000 in
theorem lm_ask {l : Launch} {G : k_G} {h : Nat} {σ : k_SB} {w : va_W} (hw : MW1 G h σ w) {o : Int32 × Int32 × Int32 × Int32 × Int32 × Int32 × Int32 × Int32 × (Nat → Int32) × (Nat → Int32)} (hrun : fm_ask  σ = some o) (sz : Nat) : k_Di l G yX13_ask wsX13_ask rm_X13_ask [.ref h] w sz o.1 (MW1 G h (um_ask σ o)) 0 0 := by
  obtain ⟨rv, a, rfl⟩ := hw
  exact k_framei (c_X13_ask (l := l) (G := G) (sz := sz) (h_t := h) hrun) [0, 3, 4, 5, 6, 8, 9, 10, 11, 13, 15] rfl (by decide) (fun u => Nat.le_of_ble_eq_true rfl) (fun u => ⟨rv, a, rfl⟩)
abbrev fm_askLeaves (σ : k_SB) : Option (Int32 × Int32 × Int32 × Int32 × Int32 × Int32 × Int32 × Int32 × (Nat → Int32) × (Nat → Int32)) := f_X13_askLeaves  (σ.1 22) (σ.1 21) (σ.1 19) (σ.1 20) (σ.1 0) (σ.1 1) (σ.1 2) (σ.1 31) (σ.1 30) (σ.2.2.1 2) (σ.2.2.1 3) (σ.2.2.1 4) (σ.2.2.1 5) (σ.2.2.1 6) (σ.2.2.1 7) (σ.2.2.1 8) (σ.2.2.1 10) (σ.2.2.1 12)
abbrev um_askLeaves (σ : k_SB) (o : Int32 × Int32 × Int32 × Int32 × Int32 × Int32 × Int32 × Int32 × (Nat → Int32) × (Nat → Int32)) : k_SB := s_a (s_a (s_i (s_i (s_i (s_i (s_i (s_i (s_i σ 22 o.2.1) 21 o.2.2.1) 19 o.2.2.2.1) 20 o.2.2.2.2.1) 0 o.2.2.2.2.2.1) 1 o.2.2.2.2.2.2.1) 2 o.2.2.2.2.2.2.2.1) 10 o.2.2.2.2.2.2.2.2.1) 12 o.2.2.2.2.2.2.2.2.2
set_option maxRecDepth 100000 in
theorem lm_askLeaves {l : Launch} {G : k_G} {h : Nat} {σ : k_SB} {w : va_W} (hw : MW1 G h σ w) {o : Int32 × Int32 × Int32 × Int32 × Int32 × Int32 × Int32 × Int32 × (Nat → Int32) × (Nat → Int32)} (hrun : fm_askLeaves  σ = some o) (sz : Nat) : k_Di l G yX13_askLeaves wsX13_askLeaves rm_X13_askLeaves [.ref h] w sz o.1 (MW1 G h (um_askLeaves σ o)) 0 0 := by
  obtain ⟨rv, a, rfl⟩ := hw
  exact k_framei (c_X13_askLeaves (l := l) (G := G) (sz := sz) (h_t := h) hrun) [0, 3, 4, 5, 6, 8, 9, 10, 11, 13, 15] rfl (by decide) (fun u => Nat.le_of_ble_eq_true rfl) (fun u => ⟨rv, a, rfl⟩)
abbrev fm_judge (σ : k_SB) : Option (Int32 × Int32 × Int32 × Int32 × (Nat → Int32)) := f_X13_judge  (σ.1 0) (σ.1 1) (σ.1 2) (σ.1 31) (σ.1 30) (σ.2.2.1 2) (σ.2.2.1 3) (σ.2.2.1 4) (σ.2.2.1 5) (σ.2.2.1 6) (σ.2.2.1 7) (σ.2.2.1 8) (σ.2.2.1 10)
abbrev um_judge (σ : k_SB) (o : Int32 × Int32 × Int32 × Int32 × (Nat → Int32)) : k_SB := s_a (s_i (s_i (s_i σ 0 o.2.1) 1 o.2.2.1) 2 o.2.2.2.1) 10 o.2.2.2.2
set_option maxRecDepth 100000 in
theorem lm_judge {l : Launch} {G : k_G} {h : Nat} {σ : k_SB} {w : va_W} (hw : MW1 G h σ w) {o : Int32 × Int32 × Int32 × Int32 × (Nat → Int32)} (hrun : fm_judge  σ = some o) (sz : Nat) : k_Di l G yX13_judge wsX13_judge rm_X13_judge [.ref h] w sz o.1 (MW1 G h (um_judge σ o)) 0 0 := by
  obtain ⟨rv, a, rfl⟩ := hw
  exact k_framei (c_X13_judge (l := l) (G := G) (sz := sz) (h_t := h) hrun) [0, 3, 4, 5, 6, 8, 9, 10, 11, 13] rfl (by decide) (fun u => Nat.le_of_ble_eq_true rfl) (fun u => ⟨rv, a, rfl⟩)
abbrev fm_odds (p1 : Int32) (p2 : Int32) (p3 : Int32) (σ : k_SB) : Option (Int64 × Int32 × Int32 × Int32) := f_X13_odds p1 p2 p3 (σ.1 0) (σ.1 1) (σ.1 2) (σ.1 28)
abbrev um_odds (σ : k_SB) (o : Int64 × Int32 × Int32 × Int32) : k_SB := s_i (s_i (s_i σ 0 o.2.1) 1 o.2.2.1) 2 o.2.2.2
set_option maxRecDepth 100000 in
theorem lm_odds {l : Launch} {G : k_G} {h : Nat} {σ : k_SB} {w : va_W} (hw : MW1 G h σ w) {p1 : Int32} {p2 : Int32} {p3 : Int32} {o : Int64 × Int32 × Int32 × Int32} (hrun : fm_odds p1 p2 p3 σ = some o) (sz : Nat) : k_Dl l G yX13_odds wsX13_odds rm_X13_odds [.ref h, .int p1, .int p2, .int p3] w sz o.1 (MW1 G h (um_odds σ o)) 0 0 := by
  obtain ⟨rv, a, rfl⟩ := hw
  exact k_framel (c_X13_odds (l := l) (G := G) (sz := sz) (h_t := h) hrun) [0, 3] rfl (by decide) (fun u => Nat.le_of_ble_eq_true rfl) (fun u => ⟨rv, a, rfl⟩)
abbrev fm_rowOdds (p1 : Int32) (p2 : Int32) (σ : k_SB) : Option (Int64 × Int32 × Int32 × Int32) := f_X13_rowOdds p1 p2 (σ.1 0) (σ.1 1) (σ.1 2) (σ.1 28) (σ.1 29) (σ.2.2.1 17)
abbrev um_rowOdds (σ : k_SB) (o : Int64 × Int32 × Int32 × Int32) : k_SB := s_i (s_i (s_i σ 0 o.2.1) 1 o.2.2.1) 2 o.2.2.2
set_option maxRecDepth 100000 in
theorem lm_rowOdds {l : Launch} {G : k_G} {h : Nat} {σ : k_SB} {w : va_W} (hw : MW1 G h σ w) {p1 : Int32} {p2 : Int32} {o : Int64 × Int32 × Int32 × Int32} (hrun : fm_rowOdds p1 p2 σ = some o) (sz : Nat) : k_Dl l G yX13_rowOdds wsX13_rowOdds rm_X13_rowOdds [.ref h, .int p1, .int p2] w sz o.1 (MW1 G h (um_rowOdds σ o)) 0 0 := by
  obtain ⟨rv, a, rfl⟩ := hw
  exact k_framel (c_X13_rowOdds (l := l) (G := G) (sz := sz) (h_t := h) hrun) [0, 3, 20] rfl (by decide) (fun u => Nat.le_of_ble_eq_true rfl) (fun u => ⟨rv, a, rfl⟩)
abbrev fm_meanSum (p1 : Int32) (p2 : Int32) (σ : k_SB) : Option (Int64 × Int32 × Int32 × Int32) := f_X13_meanSum p1 p2 (σ.1 0) (σ.1 1) (σ.1 2) (σ.1 28)
abbrev um_meanSum (σ : k_SB) (o : Int64 × Int32 × Int32 × Int32) : k_SB := s_i (s_i (s_i σ 0 o.2.1) 1 o.2.2.1) 2 o.2.2.2
set_option maxRecDepth 100000 in
theorem lm_meanSum {l : Launch} {G : k_G} {h : Nat} {σ : k_SB} {w : va_W} (hw : MW1 G h σ w) {p1 : Int32} {p2 : Int32} {o : Int64 × Int32 × Int32 × Int32} (hrun : fm_meanSum p1 p2 σ = some o) (sz : Nat) : k_Dl l G yX13_meanSum wsX13_meanSum rm_X13_meanSum [.ref h, .int p1, .int p2] w sz o.1 (MW1 G h (um_meanSum σ o)) 0 0 := by
  obtain ⟨rv, a, rfl⟩ := hw
  exact k_framel (c_X13_meanSum (l := l) (G := G) (sz := sz) (h_t := h) hrun) [0, 3] rfl (by decide) (fun u => Nat.le_of_ble_eq_true rfl) (fun u => ⟨rv, a, rfl⟩)
abbrev fm_grown (p1 : Int32) (p2 : Int32) (σ : k_SB) : Option (Int32 × Int32 × Int32 × Int32 × Int32) := f_X13_grown p1 p2 (σ.1 23) (σ.1 0) (σ.1 1) (σ.1 2) (σ.1 28)
abbrev um_grown (σ : k_SB) (o : Int32 × Int32 × Int32 × Int32 × Int32) : k_SB := s_i (s_i (s_i (s_i σ 23 o.2.1) 0 o.2.2.1) 1 o.2.2.2.1) 2 o.2.2.2.2
set_option maxRecDepth 100000 in
theorem lm_grown {l : Launch} {G : k_G} {h : Nat} {σ : k_SB} {w : va_W} (hw : MW1 G h σ w) {p1 : Int32} {p2 : Int32} {o : Int32 × Int32 × Int32 × Int32 × Int32} (hrun : fm_grown p1 p2 σ = some o) (sz : Nat) : k_Di l G yX13_grown wsX13_grown rm_X13_grown [.ref h, .int p1, .int p2] w sz o.1 (MW1 G h (um_grown σ o)) 0 0 := by
  obtain ⟨rv, a, rfl⟩ := hw
  exact k_framei (c_X13_grown (l := l) (G := G) (sz := sz) (h_t := h) hrun) [0, 3] rfl (by decide) (fun u => Nat.le_of_ble_eq_true rfl) (fun u => ⟨rv, a, rfl⟩)
abbrev fm_longestRun (p1 : Int32) (p2 : Int32) (σ : k_SB) : Option (Int32 × Int32 × Int32 × Int32 × Int32) := f_X13_longestRun p1 p2 (σ.1 23) (σ.1 0) (σ.1 1) (σ.1 2) (σ.1 28)
abbrev um_longestRun (σ : k_SB) (o : Int32 × Int32 × Int32 × Int32 × Int32) : k_SB := s_i (s_i (s_i (s_i σ 23 o.2.1) 0 o.2.2.1) 1 o.2.2.2.1) 2 o.2.2.2.2
set_option maxRecDepth 100000 in
theorem lm_longestRun {l : Launch} {G : k_G} {h : Nat} {σ : k_SB} {w : va_W} (hw : MW1 G h σ w) {p1 : Int32} {p2 : Int32} {o : Int32 × Int32 × Int32 × Int32 × Int32} (hrun : fm_longestRun p1 p2 σ = some o) (sz : Nat) : k_Di l G yX13_longestRun wsX13_longestRun rm_X13_longestRun [.ref h, .int p1, .int p2] w sz o.1 (MW1 G h (um_longestRun σ o)) 0 0 := by
  obtain ⟨rv, a, rfl⟩ := hw
  exact k_framei (c_X13_longestRun (l := l) (G := G) (sz := sz) (h_t := h) hrun) [0, 3] rfl (by decide) (fun u => Nat.le_of_ble_eq_true rfl) (fun u => ⟨rv, a, rfl⟩)
abbrev fm_slip (p1 : Int32) (p2 : Int32) (σ : k_SB) : Option (Int32 × Int32 × Int32 × Int32 × Int32 × (Nat → Int32) × (Nat → Int32)) := f_X13_slip p1 p2 (σ.1 14) (σ.1 0) (σ.1 1) (σ.1 2) (σ.1 29) (σ.2.2.1 14) (σ.2.2.1 17)
abbrev um_slip (σ : k_SB) (o : Int32 × Int32 × Int32 × Int32 × Int32 × (Nat → Int32) × (Nat → Int32)) : k_SB := s_a (s_a (s_i (s_i (s_i (s_i σ 14 o.2.1) 0 o.2.2.1) 1 o.2.2.2.1) 2 o.2.2.2.2.1) 14 o.2.2.2.2.2.1) 17 o.2.2.2.2.2.2
set_option maxRecDepth 100000 in
theorem lm_slip {l : Launch} {G : k_G} {h : Nat} {σ : k_SB} {w : va_W} (hw : MW1 G h σ w) {p1 : Int32} {p2 : Int32} {o : Int32 × Int32 × Int32 × Int32 × Int32 × (Nat → Int32) × (Nat → Int32)} (hrun : fm_slip p1 p2 σ = some o) (sz : Nat) : k_Di l G yX13_slip wsX13_slip rm_X13_slip [.ref h, .int p1, .int p2] w sz o.1 (MW1 G h (um_slip σ o)) 0 0 := by
  obtain ⟨rv, a, rfl⟩ := hw
  exact k_framei (c_X13_slip (l := l) (G := G) (sz := sz) (h_t := h) hrun) [0, 3, 17, 20] rfl (by decide) (fun u => Nat.le_of_ble_eq_true rfl) (fun u => ⟨rv, a, rfl⟩)
abbrev fm_turn (p1 : Int32) (σ : k_SB) : Option (Int32 × Int32 × Int32 × Int32 × Int32 × (Nat → Int32) × (Nat → Int32)) := f_X13_turn p1 (σ.1 14) (σ.1 0) (σ.1 1) (σ.1 2) (σ.1 29) (σ.2.2.1 14) (σ.2.2.1 17)
abbrev um_turn (σ : k_SB) (o : Int32 × Int32 × Int32 × Int32 × Int32 × (Nat → Int32) × (Nat → Int32)) : k_SB := s_a (s_a (s_i (s_i (s_i (s_i σ 14 o.2.1) 0 o.2.2.1) 1 o.2.2.2.1) 2 o.2.2.2.2.1) 14 o.2.2.2.2.2.1) 17 o.2.2.2.2.2.2
set_option maxRecDepth 100000 in
theorem lm_turn {l : Launch} {G : k_G} {h : Nat} {σ : k_SB} {w : va_W} (hw : MW1 G h σ w) {p1 : Int32} {o : Int32 × Int32 × Int32 × Int32 × Int32 × (Nat → Int32) × (Nat → Int32)} (hrun : fm_turn p1 σ = some o) (sz : Nat) : k_Di l G yX13_turn wsX13_turn rm_X13_turn [.ref h, .int p1] w sz o.1 (MW1 G h (um_turn σ o)) 0 0 := by
  obtain ⟨rv, a, rfl⟩ := hw
  exact k_framei (c_X13_turn (l := l) (G := G) (sz := sz) (h_t := h) hrun) [0, 3, 17, 20] rfl (by decide) (fun u => Nat.le_of_ble_eq_true rfl) (fun u => ⟨rv, a, rfl⟩)
abbrev fm_twin (p1 : Int32) (σ : k_SB) : Option (Int32 × Int32 × Int32 × Int32 × Int32 × (Nat → Int32) × (Nat → Int32)) := f_X13_twin p1 (σ.1 14) (σ.1 0) (σ.1 1) (σ.1 2) (σ.1 29) (σ.2.2.1 14) (σ.2.2.1 17)
abbrev um_twin (σ : k_SB) (o : Int32 × Int32 × Int32 × Int32 × Int32 × (Nat → Int32) × (Nat → Int32)) : k_SB := s_a (s_a (s_i (s_i (s_i (s_i σ 14 o.2.1) 0 o.2.2.1) 1 o.2.2.2.1) 2 o.2.2.2.2.1) 14 o.2.2.2.2.2.1) 17 o.2.2.2.2.2.2
set_option maxRecDepth 100000 in
theorem lm_twin {l : Launch} {G : k_G} {h : Nat} {σ : k_SB} {w : va_W} (hw : MW1 G h σ w) {p1 : Int32} {o : Int32 × Int32 × Int32 × Int32 × Int32 × (Nat → Int32) × (Nat → Int32)} (hrun : fm_twin p1 σ = some o) (sz : Nat) : k_Di l G yX13_twin wsX13_twin rm_X13_twin [.ref h, .int p1] w sz o.1 (MW1 G h (um_twin σ o)) 0 0 := by
  obtain ⟨rv, a, rfl⟩ := hw
  exact k_framei (c_X13_twin (l := l) (G := G) (sz := sz) (h_t := h) hrun) [0, 3, 17, 20] rfl (by decide) (fun u => Nat.le_of_ble_eq_true rfl) (fun u => ⟨rv, a, rfl⟩)
abbrev fm_grow (p1 : Int32) (p2 : Int32) (σ : k_SB) : Option (Int32 × Int32 × Int32 × Int32 × Int32 × (Nat → Int32) × (Nat → Int32)) := f_X13_grow p1 p2 (σ.1 14) (σ.1 0) (σ.1 1) (σ.1 2) (σ.1 29) (σ.2.2.1 14) (σ.2.2.1 17)
abbrev um_grow (σ : k_SB) (o : Int32 × Int32 × Int32 × Int32 × Int32 × (Nat → Int32) × (Nat → Int32)) : k_SB := s_a (s_a (s_i (s_i (s_i (s_i σ 14 o.2.1) 0 o.2.2.1) 1 o.2.2.2.1) 2 o.2.2.2.2.1) 14 o.2.2.2.2.2.1) 17 o.2.2.2.2.2.2
set_option maxRecDepth 100000 in
theorem lm_grow {l : Launch} {G : k_G} {h : Nat} {σ : k_SB} {w : va_W} (hw : MW1 G h σ w) {p1 : Int32} {p2 : Int32} {o : Int32 × Int32 × Int32 × Int32 × Int32 × (Nat → Int32) × (Nat → Int32)} (hrun : fm_grow p1 p2 σ = some o) (sz : Nat) : k_Di l G yX13_grow wsX13_grow rm_X13_grow [.ref h, .int p1, .int p2] w sz o.1 (MW1 G h (um_grow σ o)) 0 0 := by
  obtain ⟨rv, a, rfl⟩ := hw
  exact k_framei (c_X13_grow (l := l) (G := G) (sz := sz) (h_t := h) hrun) [0, 3, 17, 20] rfl (by decide) (fun u => Nat.le_of_ble_eq_true rfl) (fun u => ⟨rv, a, rfl⟩)
abbrev fm_cut (p1 : Int32) (σ : k_SB) : Option (Int32 × Int32 × Int32 × Int32 × Int32 × (Nat → Int32) × (Nat → Int32)) := f_X13_cut p1 (σ.1 14) (σ.1 0) (σ.1 1) (σ.1 2) (σ.1 29) (σ.2.2.1 14) (σ.2.2.1 17)
abbrev um_cut (σ : k_SB) (o : Int32 × Int32 × Int32 × Int32 × Int32 × (Nat → Int32) × (Nat → Int32)) : k_SB := s_a (s_a (s_i (s_i (s_i (s_i σ 14 o.2.1) 0 o.2.2.1) 1 o.2.2.2.1) 2 o.2.2.2.2.1) 14 o.2.2.2.2.2.1) 17 o.2.2.2.2.2.2
set_option maxRecDepth 100000 in
theorem lm_cut {l : Launch} {G : k_G} {h : Nat} {σ : k_SB} {w : va_W} (hw : MW1 G h σ w) {p1 : Int32} {o : Int32 × Int32 × Int32 × Int32 × Int32 × (Nat → Int32) × (Nat → Int32)} (hrun : fm_cut p1 σ = some o) (sz : Nat) : k_Di l G yX13_cut wsX13_cut rm_X13_cut [.ref h, .int p1] w sz o.1 (MW1 G h (um_cut σ o)) 0 0 := by
  obtain ⟨rv, a, rfl⟩ := hw
  exact k_framei (c_X13_cut (l := l) (G := G) (sz := sz) (h_t := h) hrun) [0, 3, 17, 20] rfl (by decide) (fun u => Nat.le_of_ble_eq_true rfl) (fun u => ⟨rv, a, rfl⟩)
abbrev fm_undo (σ : k_SB) : Option (Int32 × Int32 × Int32 × Int32 × Int32 × (Nat → Int32)) := f_X13_undo  (σ.1 14) (σ.1 0) (σ.1 1) (σ.1 2) (σ.2.2.1 14) (σ.2.2.1 17)
abbrev um_undo (σ : k_SB) (o : Int32 × Int32 × Int32 × Int32 × Int32 × (Nat → Int32)) : k_SB := s_a (s_i (s_i (s_i (s_i σ 14 o.2.1) 0 o.2.2.1) 1 o.2.2.2.1) 2 o.2.2.2.2.1) 17 o.2.2.2.2.2
set_option maxRecDepth 100000 in
theorem lm_undo {l : Launch} {G : k_G} {h : Nat} {σ : k_SB} {w : va_W} (hw : MW1 G h σ w) {o : Int32 × Int32 × Int32 × Int32 × Int32 × (Nat → Int32)} (hrun : fm_undo  σ = some o) (sz : Nat) : k_Di l G yX13_undo wsX13_undo rm_X13_undo [.ref h] w sz o.1 (MW1 G h (um_undo σ o)) 0 0 := by
  obtain ⟨rv, a, rfl⟩ := hw
  exact k_framei (c_X13_undo (l := l) (G := G) (sz := sz) (h_t := h) hrun) [0, 17, 20] rfl (by decide) (fun u => Nat.le_of_ble_eq_true rfl) (fun u => ⟨rv, a, rfl⟩)
abbrev fm_image (σ : k_SB) : Option (Int32 × Int32 × Int32 × Int32 × Int32 × (Nat → Int32)) := f_X13_image  (σ.1 15) (σ.1 0) (σ.1 1) (σ.1 2) (σ.2.2.1 1) (σ.2.2.1 17)
abbrev um_image (σ : k_SB) (o : Int32 × Int32 × Int32 × Int32 × Int32 × (Nat → Int32)) : k_SB := s_a (s_i (s_i (s_i (s_i σ 15 o.2.1) 0 o.2.2.1) 1 o.2.2.2.1) 2 o.2.2.2.2.1) 1 o.2.2.2.2.2
set_option maxRecDepth 100000 in
theorem lm_image {l : Launch} {G : k_G} {h : Nat} {σ : k_SB} {w : va_W} (hw : MW1 G h σ w) {o : Int32 × Int32 × Int32 × Int32 × Int32 × (Nat → Int32)} (hrun : fm_image  σ = some o) (sz : Nat) : k_Di l G yX13_image wsX13_image rm_X13_image [.ref h] w sz o.1 (MW1 G h (um_image σ o)) 0 0 := by
  obtain ⟨rv, a, rfl⟩ := hw
  exact k_framei (c_X13_image (l := l) (G := G) (sz := sz) (h_t := h) hrun) [0, 2, 20] rfl (by decide) (fun u => Nat.le_of_ble_eq_true rfl) (fun u => ⟨rv, a, rfl⟩)
abbrev fm_back (p1 : Int32) (σ : k_SB) : Option (Int32 × Int32 × Int32 × Int32 × Int32 × (Nat → Int32)) := f_X13_back p1 (σ.1 14) (σ.1 15) (σ.1 0) (σ.1 1) (σ.1 2) (σ.2.2.1 1) (σ.2.2.1 17)
abbrev um_back (σ : k_SB) (o : Int32 × Int32 × Int32 × Int32 × Int32 × (Nat → Int32)) : k_SB := s_a (s_i (s_i (s_i (s_i σ 14 o.2.1) 0 o.2.2.1) 1 o.2.2.2.1) 2 o.2.2.2.2.1) 17 o.2.2.2.2.2
set_option maxRecDepth 100000 in
theorem lm_back {l : Launch} {G : k_G} {h : Nat} {σ : k_SB} {w : va_W} (hw : MW1 G h σ w) {p1 : Int32} {o : Int32 × Int32 × Int32 × Int32 × Int32 × (Nat → Int32)} (hrun : fm_back p1 σ = some o) (sz : Nat) : k_Di l G yX13_back wsX13_back rm_X13_back [.ref h, .int p1] w sz o.1 (MW1 G h (um_back σ o)) 0 0 := by
  obtain ⟨rv, a, rfl⟩ := hw
  exact k_framei (c_X13_back (l := l) (G := G) (sz := sz) (h_t := h) hrun) [0, 2, 20] rfl (by decide) (fun u => Nat.le_of_ble_eq_true rfl) (fun u => ⟨rv, a, rfl⟩)
abbrev fm_led (p1 : Int32) (σ : k_SB) : Option (Int32 × Int32) := f_X13_led p1 (σ.1 0) (σ.1 29) (σ.2.2.1 17)
abbrev um_led (σ : k_SB) (o : Int32 × Int32) : k_SB := s_i σ 0 o.2
set_option maxRecDepth 100000 in
theorem lm_led {l : Launch} {G : k_G} {h : Nat} {σ : k_SB} {w : va_W} (hw : MW1 G h σ w) {p1 : Int32} {o : Int32 × Int32} (hrun : fm_led p1 σ = some o) (sz : Nat) : k_Di l G yX13_led wsX13_led rm_X13_led [.ref h, .int p1] w sz o.1 (MW1 G h (um_led σ o)) 0 0 := by
  obtain ⟨rv, a, rfl⟩ := hw
  exact k_framei (c_X13_led (l := l) (G := G) (sz := sz) (h_t := h) hrun) [0, 3, 20] rfl (by decide) (fun u => Nat.le_of_ble_eq_true rfl) (fun u => ⟨rv, a, rfl⟩)
abbrev fm_size (p1 : Int32) (σ : k_SB) : Option (Int32 × Int32) := f_X13_size p1 (σ.1 14) (σ.1 15) (σ.1 3) (σ.1 0) (σ.1 31) (σ.1 28) (σ.1 25) (σ.1 26) (σ.1 29) (σ.1 27) (σ.1 30)
abbrev um_size (σ : k_SB) (o : Int32 × Int32) : k_SB := s_i σ 0 o.2
set_option maxRecDepth 100000 in
theorem lm_size {l : Launch} {G : k_G} {h : Nat} {σ : k_SB} {w : va_W} (hw : MW1 G h σ w) {p1 : Int32} {o : Int32 × Int32} (hrun : fm_size p1 σ = some o) (sz : Nat) : k_Di l G yX13_size wsX13_size rm_X13_size [.ref h, .int p1] w sz o.1 (MW1 G h (um_size σ o)) 0 0 := by
  obtain ⟨rv, a, rfl⟩ := hw
  exact k_framei (c_X13_size (l := l) (G := G) (sz := sz) (h_t := h) hrun) [0, 3] rfl (by decide) (fun u => Nat.le_of_ble_eq_true rfl) (fun u => ⟨rv, a, rfl⟩)
abbrev fm_trouble (σ : k_SB) : Option (Int32 × Int32) := f_X13_trouble  (σ.1 0) (σ.1 1)
abbrev um_trouble (σ : k_SB) (o : Int32 × Int32) : k_SB := s_i σ 0 o.2
set_option maxRecDepth 100000 in
theorem lm_trouble {l : Launch} {G : k_G} {h : Nat} {σ : k_SB} {w : va_W} (hw : MW1 G h σ w) {o : Int32 × Int32} (hrun : fm_trouble  σ = some o) (sz : Nat) : k_Di l G yX13_trouble wsX13_trouble rm_X13_trouble [.ref h] w sz o.1 (MW1 G h (um_trouble σ o)) 0 0 := by
  obtain ⟨rv, a, rfl⟩ := hw
  exact k_framei (c_X13_trouble (l := l) (G := G) (sz := sz) (h_t := h) hrun) [0] rfl (by decide) (fun u => Nat.le_of_ble_eq_true rfl) (fun u => ⟨rv, a, rfl⟩)
