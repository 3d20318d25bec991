/-! THE REST OF THE CALLS, BUT lab -/
theorem s1_fault {σ τ : k_SB} (hR : R1 σ τ) : ∃ o o', fx_fault σ = some o ∧ fm_fault τ = some o' ∧ o = o'.1 ∧ R1 (ux_fault σ o) (um_fault τ o') := by
  obtain ⟨hT, hW, hN⟩ := hR
  exact ⟨_, _, rfl, rfl, hT.2, hT, hW, hN⟩
theorem s1_trouble {σ τ : k_SB} (hR : R1 σ τ) : ∃ o o', fx_trouble σ = some o ∧ fm_trouble τ = some o' ∧ o = o'.1 ∧ R1 (ux_trouble σ o) (um_trouble τ o') := by
  obtain ⟨hT, hW, hN⟩ := hR
  exact ⟨_, _, rfl, rfl, hW.1.symm, hT, hW, hN⟩
theorem f_where (a t : Int32) : f_X11_where a t = some (if t = 4 then a else -1) := by
  rw [f_X11_where]
  by_cases h : t = 4
  · rw [if_pos h, if_pos h]
  · rw [if_neg h, if_neg h]
theorem s1_where {σ τ : k_SB} (hR : R1 σ τ) : ∃ o o', fx_where σ = some o ∧ fm_where τ = some o' ∧ o = o'.1 ∧ R1 (ux_where σ o) (um_where τ o') := by
  obtain ⟨hT, hW, hN⟩ := hR
  exact ⟨_, _, f_where _ _, rfl, hW.2.symm, hT, hW, hN⟩
theorem s0_fault {σ τ : k_SB} (hR : R0 σ τ) : ∃ o o', fx_fault σ = some o ∧ fn_fault τ = some o' ∧ o = o'.1 ∧ R0 (ux_fault σ o) (un_fault τ o') := by
  obtain ⟨hT, hW, hN⟩ := hR
  exact ⟨_, _, rfl, rfl, hT.2, hT, hW, hN⟩
theorem s0_trouble {σ τ : k_SB} (hR : R0 σ τ) : ∃ o o', fx_trouble σ = some o ∧ fn_trouble τ = some o' ∧ o = o'.1 ∧ R0 (ux_trouble σ o) (un_trouble τ o') := by
  obtain ⟨hT, hW, hN⟩ := hR
  exact ⟨_, _, rfl, rfl, hW.1.symm, hT, hW, hN⟩
theorem s0_where {σ τ : k_SB} (hR : R0 σ τ) : ∃ o o', fx_where σ = some o ∧ fn_where τ = some o' ∧ o = o'.1 ∧ R0 (ux_where σ o) (un_where τ o') := by
  obtain ⟨hT, hW, hN⟩ := hR
  exact ⟨_, _, f_where _ _, rfl, hW.2.symm, hT, hW, hN⟩
theorem s1_feed {σ τ : k_SB} (hR : R1 σ τ) (p1 p2 p3 p4 p5 : Int32) : ∃ o o', fx_feed p1 p2 p3 p4 p5 σ = some o ∧ fm_feed p1 p2 p3 p4 p5 τ = some o' ∧ o.1 = o'.1 ∧ R1 (ux_feed σ o) (um_feed τ o') := by
  obtain ⟨⟨⟨T, hT5, n28, k3, hb⟩, hf⟩, hW, hN⟩ := hR
  obtain ⟨x, T', w', v', hT', hb', e1, e2⟩ := q_feed hT5 hb p1 p2 p3 p4 p5 (τ.1 0)
  have E1 : fx_feed p1 p2 p3 p4 p5 σ = some (x, nI T', w') := by
    show f_X11_feed p1 p2 p3 p4 p5 (σ.1 28) (σ.2.2.1 19) = _
    rw [n28]; exact e1
  have E2 : fm_feed p1 p2 p3 p4 p5 τ = some (x, nI T', 0, v') := by
    show f_X13_feed p1 p2 p3 p4 p5 (τ.1 3) (τ.1 0) (τ.2.2.1 16) = _
    rw [k3]; exact e2
  exact ⟨_, _, E1, E2, rfl, ⟨⟨T', hT', rfl, rfl, hb'⟩, hf⟩, hW, hN⟩
theorem s0_feed {σ τ : k_SB} (hR : R0 σ τ) (p1 p2 p3 p4 p5 : Int32) : ∃ o o', fx_feed p1 p2 p3 p4 p5 σ = some o ∧ fn_feed p1 p2 p3 p4 p5 τ = some o' ∧ o.1 = o'.1 ∧ R0 (ux_feed σ o) (un_feed τ o') := by
  obtain ⟨⟨⟨T, hT5, n28, k3, hb⟩, hf⟩, hW, hN⟩ := hR
  obtain ⟨x, T', w', v', hT', hb', e1, e2⟩ := q_feed hT5 hb p1 p2 p3 p4 p5 (τ.1 0)
  have E1 : fx_feed p1 p2 p3 p4 p5 σ = some (x, nI T', w') := by
    show f_X11_feed p1 p2 p3 p4 p5 (σ.1 28) (σ.2.2.1 19) = _
    rw [n28]; exact e1
  have E2 : fn_feed p1 p2 p3 p4 p5 τ = some (x, nI T', 0, v') := by
    show f_X13_feed p1 p2 p3 p4 p5 (τ.1 3) (τ.1 0) (τ.2.2.1 16) = _
    rw [k3]; exact e2
  exact ⟨_, _, E1, E2, rfl, ⟨⟨T', hT', rfl, rfl, hb'⟩, hf⟩, hW, hN⟩
theorem s0_ground {σ τ : k_SB} (hR : R0 σ τ) (p1 : Int32) : ∃ o o', fx_ground p1 σ = some o ∧ fn_ground p1 τ = some o' ∧ o.1 = o'.1 ∧ R0 (ux_ground σ o) (un_ground τ o') := by
  obtain ⟨hT, hW, n19, n29, n33, n34, n35, n3, n12⟩ := hR
  show ∃ o o', f_X11_ground p1 (σ.1 0) (σ.1 14) (σ.1 13) (σ.1 29) (σ.1 30) (σ.1 31) (σ.1 32) (σ.2.2.1 12) = some o ∧ f_X13_ground_0 p1 (τ.1 17) (τ.1 16) (τ.1 0) (τ.1 1) (τ.1 2) = some o' ∧ o.1 = o'.1 ∧ R0 (ux_ground σ o) (un_ground τ o')
  rw [n29]
  exact ⟨_, _, rfl, rfl, rfl, hT, ⟨rfl, (if_neg (show ¬ (1 : Int32) = 4 by decide)).symm⟩, n19, n29, n33, n34, n35, n3, n12⟩
theorem s0_groundMany {σ τ : k_SB} (hR : R0 σ τ) (p1 : Int32) : ∃ o o', fx_groundMany p1 σ = some o ∧ fn_groundMany p1 τ = some o' ∧ o.1 = o'.1 ∧ R0 (ux_groundMany σ o) (un_groundMany τ o') := by
  obtain ⟨hT, hW, n19, n29, n33, n34, n35, n3, n12⟩ := hR
  show ∃ o o', f_X11_groundMany p1 (σ.1 0) (σ.1 14) (σ.1 13) (σ.1 29) (σ.1 30) (σ.1 31) (σ.1 32) (σ.2.2.1 12) = some o ∧ f_X13_groundMany_0 p1 (τ.1 17) (τ.1 16) (τ.1 0) (τ.1 1) (τ.1 2) = some o' ∧ o.1 = o'.1 ∧ R0 (ux_groundMany σ o) (un_groundMany τ o')
  rw [n29]
  exact ⟨_, _, rfl, rfl, rfl, hT, ⟨rfl, (if_neg (show ¬ (1 : Int32) = 4 by decide)).symm⟩, n19, n29, n33, n34, n35, n3, n12⟩
theorem s0_groundRow {σ τ : k_SB} (hR : R0 σ τ) (p1 : Int32) : ∃ o o', fx_groundRow p1 σ = some o ∧ fn_groundRow p1 τ = some o' ∧ o.1 = o'.1 ∧ R0 (ux_groundRow σ o) (un_groundRow τ o') := by
  obtain ⟨hT, hW, n19, n29, n33, n34, n35, n3, n12⟩ := hR
  show ∃ o o', f_X11_groundRow p1 (σ.1 0) (σ.1 14) (σ.1 13) (σ.1 29) (σ.1 30) (σ.1 31) (σ.1 32) (σ.2.2.1 12) = some o ∧ f_X13_groundRow_0 p1 (τ.1 17) (τ.1 16) (τ.1 0) (τ.1 1) (τ.1 2) = some o' ∧ o.1 = o'.1 ∧ R0 (ux_groundRow σ o) (un_groundRow τ o')
  rw [n29]
  exact ⟨_, _, rfl, rfl, rfl, hT, ⟨rfl, (if_neg (show ¬ (1 : Int32) = 4 by decide)).symm⟩, n19, n29, n33, n34, n35, n3, n12⟩
theorem s0_undo {σ τ : k_SB} (hR : R0 σ τ) : ∃ o o', fx_undo  σ = some o ∧ fn_undo  τ = some o' ∧ o.1 = o'.1 ∧ R0 (ux_undo σ o) (un_undo τ o') := by
  obtain ⟨hT, hW, n19, n29, n33, n34, n35, n3, n12⟩ := hR
  show ∃ o o', f_X11_undo (σ.1 0) (σ.1 3) (σ.2.2.1 0) (σ.2.2.1 1) (σ.2.2.1 2) (σ.2.2.1 17) (σ.2.2.1 18) = some o ∧ f_X13_undo_0 (τ.1 0) (τ.1 1) (τ.1 2) = some o' ∧ o.1 = o'.1 ∧ R0 (ux_undo σ o) (un_undo τ o')
  rw [f_X11_undo, if_pos n3]
  exact ⟨_, _, rfl, rfl, rfl, hT, ⟨rfl, (if_neg (show ¬ (6 : Int32) = 4 by decide)).symm⟩, n19, n29, n33, n34, n35, n3, n12⟩
theorem s0_back {σ τ : k_SB} (hR : R0 σ τ) (p1 : Int32) : ∃ o o', fx_back p1 σ = some o ∧ fn_back p1 τ = some o' ∧ o.1 = o'.1 ∧ R0 (ux_back σ o) (un_back τ o') := by
  obtain ⟨hT, hW, n19, n29, n33, n34, n35, n3, n12⟩ := hR
  show ∃ o o', f_X11_back p1 (σ.1 0) (σ.1 3) (σ.1 12) (σ.2.2.1 10) (σ.2.2.1 11) (σ.2.2.1 17) (σ.2.2.1 18) = some o ∧ f_X13_back_0 p1 (τ.1 0) (τ.1 1) (τ.1 2) = some o' ∧ o.1 = o'.1 ∧ R0 (ux_back σ o) (un_back τ o')
  have e : f_X11_back p1 (σ.1 0) (σ.1 3) (σ.1 12) (σ.2.2.1 10) (σ.2.2.1 11) (σ.2.2.1 17) (σ.2.2.1 18) = f_X11_back_15 (σ.1 0) (σ.1 3) (σ.1 12) (σ.2.2.1 10) (σ.2.2.1 11) (σ.2.2.1 17) (σ.2.2.1 18) := by
    rw [f_X11_back]
    by_cases h : p1 < 0
    · rw [if_pos h]
    · rw [if_neg h, n12, if_neg h]
  rw [e]
  exact ⟨_, _, rfl, rfl, rfl, hT, ⟨rfl, (if_neg (show ¬ (1 : Int32) = 4 by decide)).symm⟩, n19, n29, n33, n34, n35, n3, n12⟩
theorem s0_size {σ τ : k_SB} (hR : R0 σ τ) (p1 : Int32) : ∃ o o', fx_size p1 σ = some o ∧ fn_size p1 τ = some o' ∧ o = o'.1 ∧ R0 (ux_size σ o) (un_size τ o') := by
  obtain ⟨hT, hW, n19, n29, n33, n34, n35, n3, n12⟩ := hR
  have hT' := hT
  obtain ⟨⟨T, hT5, n28, k3, hb⟩, hf⟩ := hT'
  obtain ⟨x, e1, e2⟩ := q_size0 p1 (nI T) 0 (τ.1 0) (σ.1 30) (σ.1 31) (σ.1 32)
  have E1 : fx_size p1 σ = some x := by
    show f_X11_size p1 (σ.1 3) (σ.1 12) (σ.1 19) (σ.1 28) (σ.1 35) (σ.1 29) (σ.1 33) (σ.1 30) (σ.1 31) (σ.1 32) (σ.1 34) = _
    rw [n3, n12, n19, n28, n35, n29, n33, n34]; exact e1
  have E2 : fn_size p1 τ = some (x, 0) := by
    show f_X13_size_0 p1 (τ.1 3) (τ.1 0) = _
    rw [k3]; exact e2
  exact ⟨_, _, E1, E2, rfl, hT, hW, n19, n29, n33, n34, n35, n3, n12⟩
theorem s1_led {σ τ : k_SB} (hR : R1 σ τ) (p1 : Int32) : (∃ s : Nat, s < 5 ∧ fx_led p1 σ = some (nI s) ∧ fm_led p1 τ = some (nI s, 0) ∧ R1 σ (um_led τ (nI s, 0))) ∨ (fx_led p1 σ = some (-1) ∧ fm_led p1 τ = some (0, 1) ∧ R1 σ (um_led τ (0, 1))) := by
  have hR' := hR
  obtain ⟨hT, hW, c, ua, ga, a, i, g, hN⟩ := hR'
  have hN' := hN
  obtain ⟨hc1, hg, n19, m29, -, -, -, -, -, -, -, -, -, -, -, -, -, -, -, -, -, -, hSV, -⟩ := hN'
  have hc := hSV.1
  rcases q_led hSV p1 (τ.1 0) with ⟨s, h1, e1, e2⟩ | ⟨e1, e2⟩
  · refine Or.inl ⟨s, by omega, ?_, ?_, hT, hW, c, ua, ga, a, i, g, hN⟩
    · show f_X11_led p1 (σ.1 19) (σ.2.2.1 17) (σ.2.2.1 18) = _
      rw [n19]; exact e1
    · show f_X13_led p1 (τ.1 0) (τ.1 29) (τ.2.2.1 17) = _
      rw [m29]; exact e2
  · refine Or.inr ⟨?_, ?_, hT, hW, c, ua, ga, a, i, g, hN⟩
    · show f_X11_led p1 (σ.1 19) (σ.2.2.1 17) (σ.2.2.1 18) = _
      rw [n19]; exact e1
    · show f_X13_led p1 (τ.1 0) (τ.1 29) (τ.2.2.1 17) = _
      rw [m29]; exact e2
theorem s0_led {σ τ : k_SB} (hR : R0 σ τ) (p1 : Int32) : fx_led p1 σ = some (-1) ∧ fn_led p1 τ = some (0, 1) ∧ R0 σ (un_led τ (0, 1)) := by
  have hR' := hR
  obtain ⟨hT, hW, n19, n29, n33, n34, n35, n3, n12⟩ := hR'
  refine ⟨?_, ?_, hT, hW, n19, n29, n33, n34, n35, n3, n12⟩
  · show f_X11_led p1 (σ.1 19) (σ.2.2.1 17) (σ.2.2.1 18) = _
    rw [n19, f_X11_led, show kFU = 99999 + 1 from rfl, f_X11_led_4, if_pos (by decide)]
  · show f_X13_led_0 p1 (τ.1 0) = _
    rw [f_X13_led_0, show kFU = 99999 + 1 from rfl, f_X13_led_0_9]
    rfl
