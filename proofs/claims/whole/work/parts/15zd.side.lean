/-! THE TWO BUNDLES, SIDE BY SIDE -/
def RT (σ τ : k_SB) : Prop := (∃ T : Nat, T ≤ 500 ∧ σ.1 28 = nI T ∧ τ.1 3 = nI T ∧ ∀ i, i < T → σ.2.2.1 19 i = τ.2.2.1 16 i) ∧ σ.1 1 = τ.1 9
def RW (σ τ : k_SB) : Prop := τ.1 1 = σ.1 0 ∧ τ.1 2 = if σ.1 0 = 4 then σ.1 2 else -1
def RN (σ τ : k_SB) (c ua ga a i g : Nat) : Prop := 1 ≤ c ∧ g ≤ 100 ∧ σ.1 19 = nI c ∧ τ.1 29 = nI c ∧ σ.1 29 = 1 ∧ τ.1 24 = 1 ∧ τ.1 25 = σ.1 30 ∧ τ.1 26 = σ.1 31 ∧ τ.1 27 = σ.1 32 ∧ ib (σ.1 30) 99 ∧ ib (σ.1 31) 99 ∧ ib (σ.1 32) 99 ∧ σ.1 33 = nI g ∧ τ.1 28 = nI g ∧ σ.1 34 = nI ua ∧ τ.1 30 = nI ua ∧ σ.1 35 = nI ga ∧ τ.1 31 = nI ga ∧ σ.1 3 = nI a ∧ τ.1 14 = nI a ∧ σ.1 12 = nI i ∧ τ.1 15 = nI i ∧ SV c (σ.2.2.1 17) (σ.2.2.1 18) (τ.2.2.1 17) ∧ LB c ua ga (σ.2.2.1 23) (σ.2.2.1 24) (τ.2.2.1 7) (τ.2.2.1 6) (σ.2.2.1 26) (σ.2.2.1 25) (τ.2.2.1 8) (τ.2.2.1 5) (σ.2.2.1 22) (σ.2.2.1 20) (σ.2.2.1 21) (τ.2.2.1 2) (τ.2.2.1 3) (τ.2.2.1 4) ∧ AR c a (σ.2.2.1 0) (σ.2.2.1 1) (σ.2.2.1 2) (τ.2.2.1 14) (τ.2.2.1 17) ∧ IR c i (σ.2.2.1 10) (σ.2.2.1 11) (τ.2.2.1 1)
/-- both programs hold the same lab -/
def R1 (σ τ : k_SB) : Prop := RT σ τ ∧ RW σ τ ∧ ∃ c ua ga a i g : Nat, RN σ τ c ua ga a i g
theorem s1_agree {σ τ : k_SB} (hR : R1 σ τ) (p1 : Int32) (p2 : Int32) : ∃ o o', fx_agree p1 p2 σ = some o ∧ fm_agree p1 p2 τ = some o' ∧ o.1 = o'.1 ∧ R1 (ux_agree σ o) (um_agree τ o') := by
  obtain ⟨hT, hW, c, ua, ga, a, i, g, hc1, hg, n19, m29, n29, m24, m25, m26, m27, i30, i31, i32, n33, m28, n34, m30, n35, m31, n3, m14, n12, m15, hSV, hLB, hAR, hIR⟩ := hR
  obtain ⟨w_x, w_y, w_u_, ne, e1, e2⟩ := q_agree hSV p1 p2 (σ.1 0) (τ.1 0) (τ.1 1) (τ.1 2) (τ.2.2.1 10)
  have E1 : fx_agree p1 p2 σ = some (w_x, w_y) := by
    show f_X11_agree p1 p2 (σ.1 0) (σ.1 19) (σ.2.2.1 17) (σ.2.2.1 18) = _
    rw [n19]; exact e1
  have E2 : fm_agree p1 p2 τ = some (w_x, 0, w_y, -1, w_u_) := by
    show f_X13_agree p1 p2 (τ.1 0) (τ.1 1) (τ.1 2) (τ.1 29) (τ.2.2.1 10) (τ.2.2.1 17) = _
    rw [m29]; exact e2
  exact ⟨_, _, E1, E2, rfl, hT, ⟨rfl, (if_neg ne).symm⟩, ⟨c, ua, ga, a, i, g, hc1, hg, n19, m29, n29, m24, m25, m26, m27, i30, i31, i32, n33, m28, n34, m30, n35, m31, n3, m14, n12, m15, hSV, hLB, hAR, hIR⟩⟩
theorem s1_alike {σ τ : k_SB} (hR : R1 σ τ) (p1 : Int32) (p2 : Int32) (p3 : Int32) : ∃ o o', fx_alike p1 p2 p3 σ = some o ∧ fm_alike p1 p2 p3 τ = some o' ∧ o.1 = o'.1 ∧ R1 (ux_alike σ o) (um_alike τ o') := by
  obtain ⟨hT, hW, c, ua, ga, a, i, g, hc1, hg, n19, m29, n29, m24, m25, m26, m27, i30, i31, i32, n33, m28, n34, m30, n35, m31, n3, m14, n12, m15, hSV, hLB, hAR, hIR⟩ := hR
  obtain ⟨w_x, w_y, ne, e1, e2⟩ := q_alike hSV p1 p2 p3 (σ.1 0) (τ.1 0) (τ.1 1) (τ.1 2)
  have E1 : fx_alike p1 p2 p3 σ = some (w_x, w_y) := by
    show f_X11_alike p1 p2 p3 (σ.1 0) (σ.1 19) (σ.2.2.1 17) (σ.2.2.1 18) = _
    rw [n19]; exact e1
  have E2 : fm_alike p1 p2 p3 τ = some (w_x, 0, w_y, -1) := by
    show f_X13_alike p1 p2 p3 (τ.1 0) (τ.1 1) (τ.1 2) (τ.1 29) (τ.2.2.1 17) = _
    rw [m29]; exact e2
  exact ⟨_, _, E1, E2, rfl, hT, ⟨rfl, (if_neg ne).symm⟩, ⟨c, ua, ga, a, i, g, hc1, hg, n19, m29, n29, m24, m25, m26, m27, i30, i31, i32, n33, m28, n34, m30, n35, m31, n3, m14, n12, m15, hSV, hLB, hAR, hIR⟩⟩
theorem s1_ask {σ τ : k_SB} (hR : R1 σ τ)  : ∃ o o', fx_ask  σ = some o ∧ fm_ask  τ = some o' ∧ o.1 = o'.1 ∧ R1 (ux_ask σ o) (um_ask τ o') := by
  obtain ⟨hT, hW, c, ua, ga, a, i, g, hc1, hg, n19, m29, n29, m24, m25, m26, m27, i30, i31, i32, n33, m28, n34, m30, n35, m31, n3, m14, n12, m15, hSV, hLB, hAR, hIR⟩ := hR
  obtain ⟨w_x, w_y, w_al_, w_ev_, w_fn_, w_so_, w_u_, w_w_, ne, e1, e2⟩ := q_ask hLB (σ.1 0) (τ.1 22) (τ.1 21) (τ.1 19) (τ.1 20) (τ.1 0) (τ.1 1) (τ.1 2) (τ.2.2.1 10) (τ.2.2.1 12)
  have E1 : fx_ask  σ = some (w_x, w_y) := by
    show f_X11_ask (σ.1 0) (σ.1 35) (σ.1 29) (σ.1 34) (σ.2.2.1 20) (σ.2.2.1 21) (σ.2.2.1 22) (σ.2.2.1 23) (σ.2.2.1 24) (σ.2.2.1 25) (σ.2.2.1 26) = _
    rw [n35, n29, n34]; exact e1
  have E2 : fm_ask  τ = some (w_x, w_al_, w_ev_, w_fn_, w_so_, 0, w_y, -1, w_u_, w_w_) := by
    show f_X13_ask (τ.1 22) (τ.1 21) (τ.1 19) (τ.1 20) (τ.1 0) (τ.1 1) (τ.1 2) (τ.1 31) (τ.1 30) (τ.2.2.1 2) (τ.2.2.1 3) (τ.2.2.1 4) (τ.2.2.1 5) (τ.2.2.1 6) (τ.2.2.1 7) (τ.2.2.1 8) (τ.2.2.1 10) (τ.2.2.1 12) = _
    rw [m31, m30]; exact e2
  exact ⟨_, _, E1, E2, rfl, hT, ⟨rfl, (if_neg ne).symm⟩, ⟨c, ua, ga, a, i, g, hc1, hg, n19, m29, n29, m24, m25, m26, m27, i30, i31, i32, n33, m28, n34, m30, n35, m31, n3, m14, n12, m15, hSV, hLB, hAR, hIR⟩⟩
theorem s1_askLeaves {σ τ : k_SB} (hR : R1 σ τ)  : ∃ o o', fx_askLeaves  σ = some o ∧ fm_askLeaves  τ = some o' ∧ o.1 = o'.1 ∧ R1 (ux_askLeaves σ o) (um_askLeaves τ o') := by
  obtain ⟨hT, hW, c, ua, ga, a, i, g, hc1, hg, n19, m29, n29, m24, m25, m26, m27, i30, i31, i32, n33, m28, n34, m30, n35, m31, n3, m14, n12, m15, hSV, hLB, hAR, hIR⟩ := hR
  obtain ⟨w_x, w_y, w_al_, w_ev_, w_fn_, w_so_, w_u_, w_w_, ne, e1, e2⟩ := q_askLeaves hLB (σ.1 0) (τ.1 22) (τ.1 21) (τ.1 19) (τ.1 20) (τ.1 0) (τ.1 1) (τ.1 2) (τ.2.2.1 10) (τ.2.2.1 12)
  have E1 : fx_askLeaves  σ = some (w_x, w_y) := by
    show f_X11_askLeaves (σ.1 0) (σ.1 35) (σ.1 29) (σ.1 34) (σ.2.2.1 20) (σ.2.2.1 21) (σ.2.2.1 22) (σ.2.2.1 23) (σ.2.2.1 24) (σ.2.2.1 25) (σ.2.2.1 26) = _
    rw [n35, n29, n34]; exact e1
  have E2 : fm_askLeaves  τ = some (w_x, w_al_, w_ev_, w_fn_, w_so_, 0, w_y, -1, w_u_, w_w_) := by
    show f_X13_askLeaves (τ.1 22) (τ.1 21) (τ.1 19) (τ.1 20) (τ.1 0) (τ.1 1) (τ.1 2) (τ.1 31) (τ.1 30) (τ.2.2.1 2) (τ.2.2.1 3) (τ.2.2.1 4) (τ.2.2.1 5) (τ.2.2.1 6) (τ.2.2.1 7) (τ.2.2.1 8) (τ.2.2.1 10) (τ.2.2.1 12) = _
    rw [m31, m30]; exact e2
  exact ⟨_, _, E1, E2, rfl, hT, ⟨rfl, (if_neg ne).symm⟩, ⟨c, ua, ga, a, i, g, hc1, hg, n19, m29, n29, m24, m25, m26, m27, i30, i31, i32, n33, m28, n34, m30, n35, m31, n3, m14, n12, m15, hSV, hLB, hAR, hIR⟩⟩
theorem s1_back {σ τ : k_SB} (hR : R1 σ τ) (p1 : Int32) : ∃ o o', fx_back p1 σ = some o ∧ fm_back p1 τ = some o' ∧ o.1 = o'.1 ∧ R1 (ux_back σ o) (um_back τ o') := by
  obtain ⟨hT, hW, c, ua, ga, a, i, g, hc1, hg, n19, m29, n29, m24, m25, m26, m27, i30, i31, i32, n33, m28, n34, m30, n35, m31, n3, m14, n12, m15, hSV, hLB, hAR, hIR⟩ := hR
  obtain ⟨w_x, w_y, w_a_, w_L_, w_R_, w_V_, ne, hSV', hAR', e1, e2⟩ := q_back hSV hAR hIR p1 (σ.1 0) (τ.1 0) (τ.1 1) (τ.1 2)
  have E1 : fx_back p1 σ = some (w_x, w_y, nI w_a_, w_L_, w_R_) := by
    show f_X11_back p1 (σ.1 0) (σ.1 3) (σ.1 12) (σ.2.2.1 10) (σ.2.2.1 11) (σ.2.2.1 17) (σ.2.2.1 18) = _
    rw [n3, n12]; exact e1
  have E2 : fm_back p1 τ = some (w_x, nI w_a_, 0, w_y, -1, w_V_) := by
    show f_X13_back p1 (τ.1 14) (τ.1 15) (τ.1 0) (τ.1 1) (τ.1 2) (τ.2.2.1 1) (τ.2.2.1 17) = _
    rw [m14, m15]; exact e2
  exact ⟨_, _, E1, E2, rfl, hT, ⟨rfl, (if_neg ne).symm⟩, ⟨c, ua, ga, w_a_, i, g, hc1, hg, n19, m29, n29, m24, m25, m26, m27, i30, i31, i32, n33, m28, n34, m30, n35, m31, rfl, rfl, n12, m15, hSV', hLB, hAR', hIR⟩⟩
theorem s1_bestFault {σ τ : k_SB} (hR : R1 σ τ) (p1 : Int32) : ∃ o o', fx_bestFault p1 σ = some o ∧ fm_bestFault p1 τ = some o' ∧ o.1 = o'.1 ∧ R1 (ux_bestFault σ o) (um_bestFault τ o') := by
  obtain ⟨hT, hW, c, ua, ga, a, i, g, hc1, hg, n19, m29, n29, m24, m25, m26, m27, i30, i31, i32, n33, m28, n34, m30, n35, m31, n3, m14, n12, m15, hSV, hLB, hAR, hIR⟩ := hR
  obtain ⟨w_x, w_y, ne, e1, e2⟩ := q_bestFault hSV p1 (σ.1 0) (τ.1 0) (τ.1 1) (τ.1 2) (σ.1 30) (σ.1 31) (σ.1 32)
  have E1 : fx_bestFault p1 σ = some (w_x, w_y) := by
    show f_X11_bestFault p1 (σ.1 0) (σ.1 19) (σ.1 30) (σ.1 31) (σ.1 32) (σ.2.2.1 17) (σ.2.2.1 18) = _
    rw [n19]; exact e1
  have E2 : fm_bestFault p1 τ = some (w_x, 0, w_y, -1) := by
    show f_X13_bestFault p1 (τ.1 0) (τ.1 1) (τ.1 2) (τ.1 25) (τ.1 26) (τ.1 29) (τ.1 27) (τ.2.2.1 17) = _
    rw [m25, m26, m29, m27]; exact e2
  exact ⟨_, _, E1, E2, rfl, hT, ⟨rfl, (if_neg ne).symm⟩, ⟨c, ua, ga, a, i, g, hc1, hg, n19, m29, n29, m24, m25, m26, m27, i30, i31, i32, n33, m28, n34, m30, n35, m31, n3, m14, n12, m15, hSV, hLB, hAR, hIR⟩⟩
theorem s1_calmest {σ τ : k_SB} (hR : R1 σ τ)  : ∃ o o', fx_calmest  σ = some o ∧ fm_calmest  τ = some o' ∧ o.1 = o'.1 ∧ R1 (ux_calmest σ o) (um_calmest τ o') := by
  obtain ⟨hT, hW, c, ua, ga, a, i, g, hc1, hg, n19, m29, n29, m24, m25, m26, m27, i30, i31, i32, n33, m28, n34, m30, n35, m31, n3, m14, n12, m15, hSV, hLB, hAR, hIR⟩ := hR
  obtain ⟨w_x, w_y, ne, e1, e2⟩ := q_calmest hSV hc1 (σ.1 0) (τ.1 0) (τ.1 1) (τ.1 2) (σ.1 30) (σ.1 31) (σ.1 32)
  have E1 : fx_calmest  σ = some (w_x, w_y) := by
    show f_X11_calmest (σ.1 0) (σ.1 19) (σ.1 29) (σ.1 30) (σ.1 31) (σ.1 32) (σ.2.2.1 17) (σ.2.2.1 18) = _
    rw [n19, n29]; exact e1
  have E2 : fm_calmest  τ = some (w_x, 0, w_y, -1) := by
    show f_X13_calmest (τ.1 0) (τ.1 1) (τ.1 2) (τ.1 25) (τ.1 26) (τ.1 29) (τ.1 27) (τ.2.2.1 17) = _
    rw [m25, m26, m29, m27]; exact e2
  exact ⟨_, _, E1, E2, rfl, hT, ⟨rfl, (if_neg ne).symm⟩, ⟨c, ua, ga, a, i, g, hc1, hg, n19, m29, n29, m24, m25, m26, m27, i30, i31, i32, n33, m28, n34, m30, n35, m31, n3, m14, n12, m15, hSV, hLB, hAR, hIR⟩⟩
theorem s1_could {σ τ : k_SB} (hR : R1 σ τ)  : ∃ o o', fx_could  σ = some o ∧ fm_could  τ = some o' ∧ o.1 = o'.1 ∧ R1 (ux_could σ o) (um_could τ o') := by
  obtain ⟨hT, hW, c, ua, ga, a, i, g, hc1, hg, n19, m29, n29, m24, m25, m26, m27, i30, i31, i32, n33, m28, n34, m30, n35, m31, n3, m14, n12, m15, hSV, hLB, hAR, hIR⟩ := hR
  obtain ⟨w_x, w_y, w_ev_, w_fn_, w_so_, w_u_, w_w_, ne, e1, e2⟩ := q_could hLB (σ.1 0) (τ.1 21) (τ.1 19) (τ.1 20) (τ.1 0) (τ.1 1) (τ.1 2) (τ.2.2.1 10) (τ.2.2.1 12)
  have E1 : fx_could  σ = some (w_x, w_y) := by
    show f_X11_could (σ.1 0) (σ.1 35) (σ.1 29) (σ.1 34) (σ.2.2.1 20) (σ.2.2.1 21) (σ.2.2.1 22) (σ.2.2.1 23) (σ.2.2.1 24) (σ.2.2.1 25) (σ.2.2.1 26) = _
    rw [n35, n29, n34]; exact e1
  have E2 : fm_could  τ = some (w_x, w_ev_, w_fn_, w_so_, 0, w_y, -1, w_u_, w_w_) := by
    show f_X13_could (τ.1 21) (τ.1 19) (τ.1 20) (τ.1 0) (τ.1 1) (τ.1 2) (τ.1 31) (τ.1 30) (τ.2.2.1 2) (τ.2.2.1 3) (τ.2.2.1 4) (τ.2.2.1 5) (τ.2.2.1 6) (τ.2.2.1 7) (τ.2.2.1 8) (τ.2.2.1 10) (τ.2.2.1 12) = _
    rw [m31, m30]; exact e2
  exact ⟨_, _, E1, E2, rfl, hT, ⟨rfl, (if_neg ne).symm⟩, ⟨c, ua, ga, a, i, g, hc1, hg, n19, m29, n29, m24, m25, m26, m27, i30, i31, i32, n33, m28, n34, m30, n35, m31, n3, m14, n12, m15, hSV, hLB, hAR, hIR⟩⟩
theorem s1_cut {σ τ : k_SB} (hR : R1 σ τ) (p1 : Int32) : ∃ o o', fx_cut p1 σ = some o ∧ fm_cut p1 τ = some o' ∧ o.1 = o'.1 ∧ R1 (ux_cut σ o) (um_cut τ o') := by
  obtain ⟨hT, hW, c, ua, ga, a, i, g, hc1, hg, n19, m29, n29, m24, m25, m26, m27, i30, i31, i32, n33, m28, n34, m30, n35, m31, n3, m14, n12, m15, hSV, hLB, hAR, hIR⟩ := hR
  obtain ⟨w_x, w_y, w_a_, w_ch_, w_al_, w_ar_, w_P_, w_L_, w_R_, w_V_, ne, hSV', hAR', e1, e2⟩ := q_cut hSV hAR p1 (σ.1 0) (τ.1 0) (τ.1 1) (τ.1 2)
  have E1 : fx_cut p1 σ = some (w_x, w_y, nI w_a_, w_ch_, w_al_, w_ar_, w_L_, w_R_) := by
    show f_X11_cut p1 (σ.1 0) (σ.1 3) (σ.1 19) (σ.2.2.1 0) (σ.2.2.1 1) (σ.2.2.1 2) (σ.2.2.1 17) (σ.2.2.1 18) = _
    rw [n3, n19]; exact e1
  have E2 : fm_cut p1 τ = some (w_x, nI w_a_, 0, w_y, -1, w_P_, w_V_) := by
    show f_X13_cut p1 (τ.1 14) (τ.1 0) (τ.1 1) (τ.1 2) (τ.1 29) (τ.2.2.1 14) (τ.2.2.1 17) = _
    rw [m14, m29]; exact e2
  exact ⟨_, _, E1, E2, rfl, hT, ⟨rfl, (if_neg ne).symm⟩, ⟨c, ua, ga, w_a_, i, g, hc1, hg, n19, m29, n29, m24, m25, m26, m27, i30, i31, i32, n33, m28, n34, m30, n35, m31, rfl, rfl, n12, m15, hSV', hLB, hAR', hIR⟩⟩
theorem s1_differs {σ τ : k_SB} (hR : R1 σ τ) (p1 : Int32) (p2 : Int32) : ∃ o o', fx_differs p1 p2 σ = some o ∧ fm_differs p1 p2 τ = some o' ∧ o.1 = o'.1 ∧ R1 (ux_differs σ o) (um_differs τ o') := by
  obtain ⟨hT, hW, c, ua, ga, a, i, g, hc1, hg, n19, m29, n29, m24, m25, m26, m27, i30, i31, i32, n33, m28, n34, m30, n35, m31, n3, m14, n12, m15, hSV, hLB, hAR, hIR⟩ := hR
  obtain ⟨w_x, w_y, w_u_, ne, e1, e2⟩ := q_differs hSV p1 p2 (σ.1 0) (τ.1 0) (τ.1 1) (τ.1 2) (τ.2.2.1 10)
  have E1 : fx_differs p1 p2 σ = some (w_x, w_y) := by
    show f_X11_differs p1 p2 (σ.1 0) (σ.1 19) (σ.2.2.1 17) (σ.2.2.1 18) = _
    rw [n19]; exact e1
  have E2 : fm_differs p1 p2 τ = some (w_x, 0, w_y, -1, w_u_) := by
    show f_X13_differs p1 p2 (τ.1 0) (τ.1 1) (τ.1 2) (τ.1 29) (τ.2.2.1 10) (τ.2.2.1 17) = _
    rw [m29]; exact e2
  exact ⟨_, _, E1, E2, rfl, hT, ⟨rfl, (if_neg ne).symm⟩, ⟨c, ua, ga, a, i, g, hc1, hg, n19, m29, n29, m24, m25, m26, m27, i30, i31, i32, n33, m28, n34, m30, n35, m31, n3, m14, n12, m15, hSV, hLB, hAR, hIR⟩⟩
theorem s1_energy {σ τ : k_SB} (hR : R1 σ τ) (p1 : Int32) : ∃ o o', fx_energy p1 σ = some o ∧ fm_energy p1 τ = some o' ∧ o.1 = o'.1 ∧ R1 (ux_energy σ o) (um_energy τ o') := by
  obtain ⟨hT, hW, c, ua, ga, a, i, g, hc1, hg, n19, m29, n29, m24, m25, m26, m27, i30, i31, i32, n33, m28, n34, m30, n35, m31, n3, m14, n12, m15, hSV, hLB, hAR, hIR⟩ := hR
  obtain ⟨w_x, w_y, ne, e1, e2⟩ := q_energy hSV p1 (σ.1 0) (τ.1 0) (τ.1 1) (τ.1 2) (σ.1 30) (σ.1 31) (σ.1 32)
  have E1 : fx_energy p1 σ = some (w_x, w_y) := by
    show f_X11_energy p1 (σ.1 0) (σ.1 19) (σ.1 30) (σ.1 31) (σ.1 32) (σ.2.2.1 17) (σ.2.2.1 18) = _
    rw [n19]; exact e1
  have E2 : fm_energy p1 τ = some (w_x, 0, w_y, -1) := by
    show f_X13_energy p1 (τ.1 0) (τ.1 1) (τ.1 2) (τ.1 25) (τ.1 26) (τ.1 29) (τ.1 27) (τ.2.2.1 17) = _
    rw [m25, m26, m29, m27]; exact e2
  exact ⟨_, _, E1, E2, rfl, hT, ⟨rfl, (if_neg ne).symm⟩, ⟨c, ua, ga, a, i, g, hc1, hg, n19, m29, n29, m24, m25, m26, m27, i30, i31, i32, n33, m28, n34, m30, n35, m31, n3, m14, n12, m15, hSV, hLB, hAR, hIR⟩⟩
theorem s1_faultEnergy {σ τ : k_SB} (hR : R1 σ τ) (p1 : Int32) (p2 : Int32) : ∃ o o', fx_faultEnergy p1 p2 σ = some o ∧ fm_faultEnergy p1 p2 τ = some o' ∧ o.1 = o'.1 ∧ R1 (ux_faultEnergy σ o) (um_faultEnergy τ o') := by
  obtain ⟨hT, hW, c, ua, ga, a, i, g, hc1, hg, n19, m29, n29, m24, m25, m26, m27, i30, i31, i32, n33, m28, n34, m30, n35, m31, n3, m14, n12, m15, hSV, hLB, hAR, hIR⟩ := hR
  obtain ⟨w_x, w_y, ne, e1, e2⟩ := q_faultEnergy hSV p1 p2 (σ.1 0) (τ.1 0) (τ.1 1) (τ.1 2) (σ.1 30) (σ.1 31) (σ.1 32)
  have E1 : fx_faultEnergy p1 p2 σ = some (w_x, w_y) := by
    show f_X11_faultEnergy p1 p2 (σ.1 0) (σ.1 19) (σ.1 30) (σ.1 31) (σ.1 32) (σ.2.2.1 17) (σ.2.2.1 18) = _
    rw [n19]; exact e1
  have E2 : fm_faultEnergy p1 p2 τ = some (w_x, 0, w_y, -1) := by
    show f_X13_faultEnergy p1 p2 (τ.1 0) (τ.1 1) (τ.1 2) (τ.1 25) (τ.1 26) (τ.1 29) (τ.1 27) (τ.2.2.1 17) = _
    rw [m25, m26, m29, m27]; exact e2
  exact ⟨_, _, E1, E2, rfl, hT, ⟨rfl, (if_neg ne).symm⟩, ⟨c, ua, ga, a, i, g, hc1, hg, n19, m29, n29, m24, m25, m26, m27, i30, i31, i32, n33, m28, n34, m30, n35, m31, n3, m14, n12, m15, hSV, hLB, hAR, hIR⟩⟩
theorem s1_firstLine {σ τ : k_SB} (hR : R1 σ τ) (p1 : Int32) : ∃ o o', fx_firstLine p1 σ = some o ∧ fm_firstLine p1 τ = some o' ∧ o.1 = o'.1 ∧ R1 (ux_firstLine σ o) (um_firstLine τ o') := by
  obtain ⟨hT, hW, c, ua, ga, a, i, g, hc1, hg, n19, m29, n29, m24, m25, m26, m27, i30, i31, i32, n33, m28, n34, m30, n35, m31, n3, m14, n12, m15, hSV, hLB, hAR, hIR⟩ := hR
  obtain ⟨w_x, w_y, w_c1, w_s1, w_l1, w_u1, w_w1, ne, e1, e2⟩ := q_firstLine hSV p1 (σ.1 0) (τ.1 0) (τ.1 1) (τ.1 2) (σ.2.2.1 15) (σ.2.2.1 16) (τ.2.2.1 9) (τ.2.2.1 10) (τ.2.2.1 13)
  have E1 : fx_firstLine p1 σ = some (w_x, w_y, w_c1, w_s1) := by
    show f_X11_firstLine p1 (σ.1 0) (σ.1 19) (σ.2.2.1 15) (σ.2.2.1 16) (σ.2.2.1 17) (σ.2.2.1 18) = _
    rw [n19]; exact e1
  have E2 : fm_firstLine p1 τ = some (w_x, 0, w_y, -1, w_l1, w_u1, w_w1) := by
    show f_X13_firstLine p1 (τ.1 0) (τ.1 1) (τ.1 2) (τ.1 29) (τ.2.2.1 9) (τ.2.2.1 10) (τ.2.2.1 13) (τ.2.2.1 17) = _
    rw [m29]; exact e2
  exact ⟨_, _, E1, E2, rfl, hT, ⟨rfl, (if_neg ne).symm⟩, ⟨c, ua, ga, a, i, g, hc1, hg, n19, m29, n29, m24, m25, m26, m27, i30, i31, i32, n33, m28, n34, m30, n35, m31, n3, m14, n12, m15, hSV, hLB, hAR, hIR⟩⟩
theorem s1_fitAt {σ τ : k_SB} (hR : R1 σ τ) (p1 : Int32) : ∃ o o', fx_fitAt p1 σ = some o ∧ fm_fitAt p1 τ = some o' ∧ o.1 = o'.1 ∧ R1 (ux_fitAt σ o) (um_fitAt τ o') := by
  obtain ⟨hT, hW, c, ua, ga, a, i, g, hc1, hg, n19, m29, n29, m24, m25, m26, m27, i30, i31, i32, n33, m28, n34, m30, n35, m31, n3, m14, n12, m15, hSV, hLB, hAR, hIR⟩ := hR
  obtain ⟨w_x, w_y, w_ev_, w_fn_, w_so_, w_u_, w_w_, ne, e1, e2⟩ := q_fitAt hLB p1 (σ.1 0) (τ.1 21) (τ.1 19) (τ.1 20) (τ.1 0) (τ.1 1) (τ.1 2) (τ.2.2.1 10) (τ.2.2.1 12)
  have E1 : fx_fitAt p1 σ = some (w_x, w_y) := by
    show f_X11_fitAt p1 (σ.1 0) (σ.1 35) (σ.1 29) (σ.1 34) (σ.2.2.1 20) (σ.2.2.1 21) (σ.2.2.1 22) (σ.2.2.1 23) (σ.2.2.1 24) (σ.2.2.1 25) (σ.2.2.1 26) = _
    rw [n35, n29, n34]; exact e1
  have E2 : fm_fitAt p1 τ = some (w_x, w_ev_, w_fn_, w_so_, 0, w_y, -1, w_u_, w_w_) := by
    show f_X13_fitAt p1 (τ.1 21) (τ.1 19) (τ.1 20) (τ.1 0) (τ.1 1) (τ.1 2) (τ.1 31) (τ.1 30) (τ.2.2.1 2) (τ.2.2.1 3) (τ.2.2.1 4) (τ.2.2.1 5) (τ.2.2.1 6) (τ.2.2.1 7) (τ.2.2.1 8) (τ.2.2.1 10) (τ.2.2.1 12) = _
    rw [m31, m30]; exact e2
  exact ⟨_, _, E1, E2, rfl, hT, ⟨rfl, (if_neg ne).symm⟩, ⟨c, ua, ga, a, i, g, hc1, hg, n19, m29, n29, m24, m25, m26, m27, i30, i31, i32, n33, m28, n34, m30, n35, m31, n3, m14, n12, m15, hSV, hLB, hAR, hIR⟩⟩
theorem s1_fits {σ τ : k_SB} (hR : R1 σ τ)  : ∃ o o', fx_fits  σ = some o ∧ fm_fits  τ = some o' ∧ o.1 = o'.1 ∧ R1 (ux_fits σ o) (um_fits τ o') := by
  obtain ⟨hT, hW, c, ua, ga, a, i, g, hc1, hg, n19, m29, n29, m24, m25, m26, m27, i30, i31, i32, n33, m28, n34, m30, n35, m31, n3, m14, n12, m15, hSV, hLB, hAR, hIR⟩ := hR
  obtain ⟨w_x, w_y, w_ev_, w_fn_, w_so_, w_u_, w_w_, ne, e1, e2⟩ := q_fits hLB (σ.1 0) (τ.1 21) (τ.1 19) (τ.1 20) (τ.1 0) (τ.1 1) (τ.1 2) (τ.2.2.1 10) (τ.2.2.1 12)
  have E1 : fx_fits  σ = some (w_x, w_y) := by
    show f_X11_fits (σ.1 0) (σ.1 35) (σ.1 29) (σ.1 34) (σ.2.2.1 20) (σ.2.2.1 21) (σ.2.2.1 22) (σ.2.2.1 23) (σ.2.2.1 24) (σ.2.2.1 25) (σ.2.2.1 26) = _
    rw [n35, n29, n34]; exact e1
  have E2 : fm_fits  τ = some (w_x, w_ev_, w_fn_, w_so_, 0, w_y, -1, w_u_, w_w_) := by
    show f_X13_fits (τ.1 21) (τ.1 19) (τ.1 20) (τ.1 0) (τ.1 1) (τ.1 2) (τ.1 31) (τ.1 30) (τ.2.2.1 2) (τ.2.2.1 3) (τ.2.2.1 4) (τ.2.2.1 5) (τ.2.2.1 6) (τ.2.2.1 7) (τ.2.2.1 8) (τ.2.2.1 10) (τ.2.2.1 12) = _
    rw [m31, m30]; exact e2
  exact ⟨_, _, E1, E2, rfl, hT, ⟨rfl, (if_neg ne).symm⟩, ⟨c, ua, ga, a, i, g, hc1, hg, n19, m29, n29, m24, m25, m26, m27, i30, i31, i32, n33, m28, n34, m30, n35, m31, n3, m14, n12, m15, hSV, hLB, hAR, hIR⟩⟩
theorem s1_ground {σ τ : k_SB} (hR : R1 σ τ) (p1 : Int32) : ∃ o o', fx_ground p1 σ = some o ∧ fm_ground p1 τ = some o' ∧ o.1 = o'.1 ∧ R1 (ux_ground σ o) (um_ground τ o') := by
  obtain ⟨hT, hW, c, ua, ga, a, i, g, hc1, hg, n19, m29, n29, m24, m25, m26, m27, i30, i31, i32, n33, m28, n34, m30, n35, m31, n3, m14, n12, m15, hSV, hLB, hAR, hIR⟩ := hR
  obtain ⟨w_x, w_y, w_r_, w_s_, w_u_, w_v_, w_w_, ne, e1, e2⟩ := q_ground p1 (σ.1 0) (σ.1 14) (σ.1 13) (τ.1 17) (τ.1 16) (τ.1 0) (τ.1 1) (τ.1 2) (σ.1 30) (σ.1 31) (σ.1 32) (σ.2.2.1 12) i30 i31 i32
  have E1 : fx_ground p1 σ = some (w_x, w_y, w_r_, w_s_, w_w_) := by
    show f_X11_ground p1 (σ.1 0) (σ.1 14) (σ.1 13) (σ.1 29) (σ.1 30) (σ.1 31) (σ.1 32) (σ.2.2.1 12) = _
    rw [n29]; exact e1
  have E2 : fm_ground p1 τ = some (w_x, w_u_, w_v_, 0, w_y, -1) := by
    show f_X13_ground p1 (τ.1 17) (τ.1 16) (τ.1 0) (τ.1 1) (τ.1 2) (τ.1 25) (τ.1 26) (τ.1 27) = _
    rw [m25, m26, m27]; exact e2
  exact ⟨_, _, E1, E2, rfl, hT, ⟨rfl, (if_neg ne).symm⟩, ⟨c, ua, ga, a, i, g, hc1, hg, n19, m29, n29, m24, m25, m26, m27, i30, i31, i32, n33, m28, n34, m30, n35, m31, n3, m14, n12, m15, hSV, hLB, hAR, hIR⟩⟩
theorem s1_groundBest {σ τ : k_SB} (hR : R1 σ τ)  : ∃ o o', fx_groundBest  σ = some o ∧ fm_groundBest  τ = some o' ∧ o.1 = o'.1 ∧ R1 (ux_groundBest σ o) (um_groundBest τ o') := by
  obtain ⟨hT, hW, c, ua, ga, a, i, g, hc1, hg, n19, m29, n29, m24, m25, m26, m27, i30, i31, i32, n33, m28, n34, m30, n35, m31, n3, m14, n12, m15, hSV, hLB, hAR, hIR⟩ := hR
  obtain ⟨w_x, w_y, w_r_, w_s_, w_u_, w_v_, w_w_, ne, e1, e2⟩ := q_groundBest (σ.1 0) (σ.1 14) (σ.1 13) (τ.1 17) (τ.1 16) (τ.1 0) (τ.1 1) (τ.1 2) (σ.1 30) (σ.1 31) (σ.1 32) (σ.2.2.1 12) i30 i31 i32
  have E1 : fx_groundBest  σ = some (w_x, w_y, w_r_, w_s_, w_w_) := by
    show f_X11_groundBest (σ.1 0) (σ.1 14) (σ.1 13) (σ.1 29) (σ.1 30) (σ.1 31) (σ.1 32) (σ.2.2.1 12) = _
    rw [n29]; exact e1
  have E2 : fm_groundBest  τ = some (w_x, w_u_, w_v_, 0, w_y, -1) := by
    show f_X13_groundBest (τ.1 17) (τ.1 16) (τ.1 0) (τ.1 1) (τ.1 2) (τ.1 25) (τ.1 26) (τ.1 27) = _
    rw [m25, m26, m27]; exact e2
  exact ⟨_, _, E1, E2, rfl, hT, ⟨rfl, (if_neg ne).symm⟩, ⟨c, ua, ga, a, i, g, hc1, hg, n19, m29, n29, m24, m25, m26, m27, i30, i31, i32, n33, m28, n34, m30, n35, m31, n3, m14, n12, m15, hSV, hLB, hAR, hIR⟩⟩
theorem s1_groundMany {σ τ : k_SB} (hR : R1 σ τ) (p1 : Int32) : ∃ o o', fx_groundMany p1 σ = some o ∧ fm_groundMany p1 τ = some o' ∧ o.1 = o'.1 ∧ R1 (ux_groundMany σ o) (um_groundMany τ o') := by
  obtain ⟨hT, hW, c, ua, ga, a, i, g, hc1, hg, n19, m29, n29, m24, m25, m26, m27, i30, i31, i32, n33, m28, n34, m30, n35, m31, n3, m14, n12, m15, hSV, hLB, hAR, hIR⟩ := hR
  obtain ⟨w_x, w_y, w_r_, w_s_, w_u_, w_v_, w_w_, ne, e1, e2⟩ := q_groundMany p1 (σ.1 0) (σ.1 14) (σ.1 13) (τ.1 17) (τ.1 16) (τ.1 0) (τ.1 1) (τ.1 2) (σ.1 30) (σ.1 31) (σ.1 32) (σ.2.2.1 12) i30 i31 i32
  have E1 : fx_groundMany p1 σ = some (w_x, w_y, w_r_, w_s_, w_w_) := by
    show f_X11_groundMany p1 (σ.1 0) (σ.1 14) (σ.1 13) (σ.1 29) (σ.1 30) (σ.1 31) (σ.1 32) (σ.2.2.1 12) = _
    rw [n29]; exact e1
  have E2 : fm_groundMany p1 τ = some (w_x, w_u_, w_v_, 0, w_y, -1) := by
    show f_X13_groundMany p1 (τ.1 17) (τ.1 16) (τ.1 0) (τ.1 1) (τ.1 2) (τ.1 25) (τ.1 26) (τ.1 27) = _
    rw [m25, m26, m27]; exact e2
  exact ⟨_, _, E1, E2, rfl, hT, ⟨rfl, (if_neg ne).symm⟩, ⟨c, ua, ga, a, i, g, hc1, hg, n19, m29, n29, m24, m25, m26, m27, i30, i31, i32, n33, m28, n34, m30, n35, m31, n3, m14, n12, m15, hSV, hLB, hAR, hIR⟩⟩
theorem s1_groundRow {σ τ : k_SB} (hR : R1 σ τ) (p1 : Int32) : ∃ o o', fx_groundRow p1 σ = some o ∧ fm_groundRow p1 τ = some o' ∧ o.1 = o'.1 ∧ R1 (ux_groundRow σ o) (um_groundRow τ o') := by
  obtain ⟨hT, hW, c, ua, ga, a, i, g, hc1, hg, n19, m29, n29, m24, m25, m26, m27, i30, i31, i32, n33, m28, n34, m30, n35, m31, n3, m14, n12, m15, hSV, hLB, hAR, hIR⟩ := hR
  obtain ⟨w_x, w_y, w_r_, w_s_, w_u_, w_v_, w_w_, ne, e1, e2⟩ := q_groundRow p1 (σ.1 0) (σ.1 14) (σ.1 13) (τ.1 17) (τ.1 16) (τ.1 0) (τ.1 1) (τ.1 2) (σ.1 30) (σ.1 31) (σ.1 32) (σ.2.2.1 12) i30 i31 i32
  have E1 : fx_groundRow p1 σ = some (w_x, w_y, w_r_, w_s_, w_w_) := by
    show f_X11_groundRow p1 (σ.1 0) (σ.1 14) (σ.1 13) (σ.1 29) (σ.1 30) (σ.1 31) (σ.1 32) (σ.2.2.1 12) = _
    rw [n29]; exact e1
  have E2 : fm_groundRow p1 τ = some (w_x, w_u_, w_v_, 0, w_y, -1) := by
    show f_X13_groundRow p1 (τ.1 17) (τ.1 16) (τ.1 0) (τ.1 1) (τ.1 2) (τ.1 25) (τ.1 26) (τ.1 27) = _
    rw [m25, m26, m27]; exact e2
  exact ⟨_, _, E1, E2, rfl, hT, ⟨rfl, (if_neg ne).symm⟩, ⟨c, ua, ga, a, i, g, hc1, hg, n19, m29, n29, m24, m25, m26, m27, i30, i31, i32, n33, m28, n34, m30, n35, m31, n3, m14, n12, m15, hSV, hLB, hAR, hIR⟩⟩
theorem s1_grow {σ τ : k_SB} (hR : R1 σ τ) (p1 : Int32) (p2 : Int32) : ∃ o o', fx_grow p1 p2 σ = some o ∧ fm_grow p1 p2 τ = some o' ∧ o.1 = o'.1 ∧ R1 (ux_grow σ o) (um_grow τ o') := by
  obtain ⟨hT, hW, c, ua, ga, a, i, g, hc1, hg, n19, m29, n29, m24, m25, m26, m27, i30, i31, i32, n33, m28, n34, m30, n35, m31, n3, m14, n12, m15, hSV, hLB, hAR, hIR⟩ := hR
  obtain ⟨w_x, w_y, w_a_, w_ch_, w_al_, w_ar_, w_P_, w_L_, w_R_, w_V_, ne, hSV', hAR', e1, e2⟩ := q_grow hSV hAR p1 p2 (σ.1 0) (τ.1 0) (τ.1 1) (τ.1 2)
  have E1 : fx_grow p1 p2 σ = some (w_x, w_y, nI w_a_, w_ch_, w_al_, w_ar_, w_L_, w_R_) := by
    show f_X11_grow p1 p2 (σ.1 0) (σ.1 3) (σ.1 19) (σ.2.2.1 0) (σ.2.2.1 1) (σ.2.2.1 2) (σ.2.2.1 17) (σ.2.2.1 18) = _
    rw [n3, n19]; exact e1
  have E2 : fm_grow p1 p2 τ = some (w_x, nI w_a_, 0, w_y, -1, w_P_, w_V_) := by
    show f_X13_grow p1 p2 (τ.1 14) (τ.1 0) (τ.1 1) (τ.1 2) (τ.1 29) (τ.2.2.1 14) (τ.2.2.1 17) = _
    rw [m14, m29]; exact e2
  exact ⟨_, _, E1, E2, rfl, hT, ⟨rfl, (if_neg ne).symm⟩, ⟨c, ua, ga, w_a_, i, g, hc1, hg, n19, m29, n29, m24, m25, m26, m27, i30, i31, i32, n33, m28, n34, m30, n35, m31, rfl, rfl, n12, m15, hSV', hLB, hAR', hIR⟩⟩
theorem s1_grown {σ τ : k_SB} (hR : R1 σ τ) (p1 : Int32) (p2 : Int32) : ∃ o o', fx_grown p1 p2 σ = some o ∧ fm_grown p1 p2 τ = some o' ∧ o.1 = o'.1 ∧ R1 (ux_grown σ o) (um_grown τ o') := by
  obtain ⟨hT, hW, c, ua, ga, a, i, g, hc1, hg, n19, m29, n29, m24, m25, m26, m27, i30, i31, i32, n33, m28, n34, m30, n35, m31, n3, m14, n12, m15, hSV, hLB, hAR, hIR⟩ := hR
  obtain ⟨w_x, w_y, w_s_, ne, e1, e2⟩ := q_grown p1 p2 (σ.1 0) (τ.1 23) (τ.1 0) (τ.1 1) (τ.1 2) (nI g)
  have E1 : fx_grown p1 p2 σ = some (w_x, w_y) := by
    show f_X11_grown p1 p2 (σ.1 0) (σ.1 29) (σ.1 33) = _
    rw [n29, n33]; exact e1
  have E2 : fm_grown p1 p2 τ = some (w_x, w_s_, 0, w_y, -1) := by
    show f_X13_grown p1 p2 (τ.1 23) (τ.1 0) (τ.1 1) (τ.1 2) (τ.1 28) = _
    rw [m28]; exact e2
  exact ⟨_, _, E1, E2, rfl, hT, ⟨rfl, (if_neg ne).symm⟩, ⟨c, ua, ga, a, i, g, hc1, hg, n19, m29, n29, m24, m25, m26, m27, i30, i31, i32, n33, m28, n34, m30, n35, m31, n3, m14, n12, m15, hSV, hLB, hAR, hIR⟩⟩
theorem s1_hex {σ τ : k_SB} (hR : R1 σ τ) (p1 : Int32) (p2 : Int32) : ∃ o o', fx_hex p1 p2 σ = some o ∧ fm_hex p1 p2 τ = some o' ∧ o.1 = o'.1 ∧ R1 (ux_hex σ o) (um_hex τ o') := by
  obtain ⟨hT, hW, c, ua, ga, a, i, g, hc1, hg, n19, m29, n29, m24, m25, m26, m27, i30, i31, i32, n33, m28, n34, m30, n35, m31, n3, m14, n12, m15, hSV, hLB, hAR, hIR⟩ := hR
  obtain ⟨w_x, w_y, ne, e1, e2⟩ := q_hex hSV p1 p2 (σ.1 0) (τ.1 0) (τ.1 1) (τ.1 2)
  have E1 : fx_hex p1 p2 σ = some (w_x, w_y) := by
    show f_X11_hex p1 p2 (σ.1 0) (σ.1 19) (σ.2.2.1 17) (σ.2.2.1 18) = _
    rw [n19]; exact e1
  have E2 : fm_hex p1 p2 τ = some (w_x, 0, w_y, -1) := by
    show f_X13_hex p1 p2 (τ.1 0) (τ.1 1) (τ.1 2) (τ.1 29) (τ.2.2.1 17) = _
    rw [m29]; exact e2
  exact ⟨_, _, E1, E2, rfl, hT, ⟨rfl, (if_neg ne).symm⟩, ⟨c, ua, ga, a, i, g, hc1, hg, n19, m29, n29, m24, m25, m26, m27, i30, i31, i32, n33, m28, n34, m30, n35, m31, n3, m14, n12, m15, hSV, hLB, hAR, hIR⟩⟩
theorem s1_image {σ τ : k_SB} (hR : R1 σ τ)  : ∃ o o', fx_image  σ = some o ∧ fm_image  τ = some o' ∧ o.1 = o'.1 ∧ R1 (ux_image σ o) (um_image τ o') := by
  obtain ⟨hT, hW, c, ua, ga, a, i, g, hc1, hg, n19, m29, n29, m24, m25, m26, m27, i30, i31, i32, n33, m28, n34, m30, n35, m31, n3, m14, n12, m15, hSV, hLB, hAR, hIR⟩ := hR
  obtain ⟨w_x, w_y, w_i_, w_il_, w_ir_, w_K_, ne, hIR', e1, e2⟩ := q_image hSV hIR (σ.1 0) (τ.1 0) (τ.1 1) (τ.1 2)
  have E1 : fx_image  σ = some (w_x, w_y, nI w_i_, w_il_, w_ir_) := by
    show f_X11_image (σ.1 0) (σ.1 12) (σ.1 29) (σ.2.2.1 10) (σ.2.2.1 11) (σ.2.2.1 17) (σ.2.2.1 18) = _
    rw [n12, n29]; exact e1
  have E2 : fm_image  τ = some (w_x, nI w_i_, 0, w_y, -1, w_K_) := by
    show f_X13_image (τ.1 15) (τ.1 0) (τ.1 1) (τ.1 2) (τ.2.2.1 1) (τ.2.2.1 17) = _
    rw [m15]; exact e2
  exact ⟨_, _, E1, E2, rfl, hT, ⟨rfl, (if_neg ne).symm⟩, ⟨c, ua, ga, a, w_i_, g, hc1, hg, n19, m29, n29, m24, m25, m26, m27, i30, i31, i32, n33, m28, n34, m30, n35, m31, n3, m14, rfl, rfl, hSV, hLB, hAR, hIR'⟩⟩
theorem s1_judge {σ τ : k_SB} (hR : R1 σ τ)  : ∃ o o', fx_judge  σ = some o ∧ fm_judge  τ = some o' ∧ o.1 = o'.1 ∧ R1 (ux_judge σ o) (um_judge τ o') := by
  obtain ⟨hT, hW, c, ua, ga, a, i, g, hc1, hg, n19, m29, n29, m24, m25, m26, m27, i30, i31, i32, n33, m28, n34, m30, n35, m31, n3, m14, n12, m15, hSV, hLB, hAR, hIR⟩ := hR
  obtain ⟨w_x, w_y, w_u_, ne, e1, e2⟩ := q_judge hLB (σ.1 0) (τ.1 0) (τ.1 1) (τ.1 2) (τ.2.2.1 10)
  have E1 : fx_judge  σ = some (w_x, w_y) := by
    show f_X11_judge (σ.1 0) (σ.1 35) (σ.1 29) (σ.1 34) (σ.2.2.1 20) (σ.2.2.1 21) (σ.2.2.1 22) (σ.2.2.1 23) (σ.2.2.1 24) (σ.2.2.1 25) (σ.2.2.1 26) = _
    rw [n35, n29, n34]; exact e1
  have E2 : fm_judge  τ = some (w_x, 0, w_y, -1, w_u_) := by
    show f_X13_judge (τ.1 0) (τ.1 1) (τ.1 2) (τ.1 31) (τ.1 30) (τ.2.2.1 2) (τ.2.2.1 3) (τ.2.2.1 4) (τ.2.2.1 5) (τ.2.2.1 6) (τ.2.2.1 7) (τ.2.2.1 8) (τ.2.2.1 10) = _
    rw [m31, m30]; exact e2
  exact ⟨_, _, E1, E2, rfl, hT, ⟨rfl, (if_neg ne).symm⟩, ⟨c, ua, ga, a, i, g, hc1, hg, n19, m29, n29, m24, m25, m26, m27, i30, i31, i32, n33, m28, n34, m30, n35, m31, n3, m14, n12, m15, hSV, hLB, hAR, hIR⟩⟩
theorem s1_kinds {σ τ : k_SB} (hR : R1 σ τ) (p1 : Int32) (p2 : Int32) (p3 : Int32) : ∃ o o', fx_kinds p1 p2 p3 σ = some o ∧ fm_kinds p1 p2 p3 τ = some o' ∧ o.1 = o'.1 ∧ R1 (ux_kinds σ o) (um_kinds τ o') := by
  obtain ⟨hT, hW, c, ua, ga, a, i, g, hc1, hg, n19, m29, n29, m24, m25, m26, m27, i30, i31, i32, n33, m28, n34, m30, n35, m31, n3, m14, n12, m15, hSV, hLB, hAR, hIR⟩ := hR
  obtain ⟨w_x, w_y, ne, e1, e2⟩ := q_kinds p1 p2 p3 (σ.1 0) (τ.1 0) (τ.1 1) (τ.1 2)
  have E1 : fx_kinds p1 p2 p3 σ = some (w_x, w_y) := by
    show f_X11_kinds p1 p2 p3 (σ.1 0) (σ.1 29) = _
    rw [n29]; exact e1
  have E2 : fm_kinds p1 p2 p3 τ = some (w_x, 0, w_y, -1) := by
    show f_X13_kinds p1 p2 p3 (τ.1 0) (τ.1 1) (τ.1 2) = _
    exact e2
  exact ⟨_, _, E1, E2, rfl, hT, ⟨rfl, (if_neg ne).symm⟩, ⟨c, ua, ga, a, i, g, hc1, hg, n19, m29, n29, m24, m25, m26, m27, i30, i31, i32, n33, m28, n34, m30, n35, m31, n3, m14, n12, m15, hSV, hLB, hAR, hIR⟩⟩
theorem s1_layer {σ τ : k_SB} (hR : R1 σ τ) (p1 : Int32) (p2 : Int32) : ∃ o o', fx_layer p1 p2 σ = some o ∧ fm_layer p1 p2 τ = some o' ∧ o.1 = o'.1 ∧ R1 (ux_layer σ o) (um_layer τ o') := by
  obtain ⟨hT, hW, c, ua, ga, a, i, g, hc1, hg, n19, m29, n29, m24, m25, m26, m27, i30, i31, i32, n33, m28, n34, m30, n35, m31, n3, m14, n12, m15, hSV, hLB, hAR, hIR⟩ := hR
  obtain ⟨w_x, w_y, w_u_, ne, e1, e2⟩ := q_layer hSV p1 p2 (σ.1 0) (τ.1 0) (τ.1 1) (τ.1 2) (τ.2.2.1 10)
  have E1 : fx_layer p1 p2 σ = some (w_x, w_y) := by
    show f_X11_layer p1 p2 (σ.1 0) (σ.1 19) (σ.2.2.1 17) (σ.2.2.1 18) = _
    rw [n19]; exact e1
  have E2 : fm_layer p1 p2 τ = some (w_x, 0, w_y, -1, w_u_) := by
    show f_X13_layer p1 p2 (τ.1 0) (τ.1 1) (τ.1 2) (τ.1 29) (τ.2.2.1 10) (τ.2.2.1 17) = _
    rw [m29]; exact e2
  exact ⟨_, _, E1, E2, rfl, hT, ⟨rfl, (if_neg ne).symm⟩, ⟨c, ua, ga, a, i, g, hc1, hg, n19, m29, n29, m24, m25, m26, m27, i30, i31, i32, n33, m28, n34, m30, n35, m31, n3, m14, n12, m15, hSV, hLB, hAR, hIR⟩⟩
theorem s1_least {σ τ : k_SB} (hR : R1 σ τ) (p1 : Int32) (p2 : Int32) : ∃ o o', fx_least p1 p2 σ = some o ∧ fm_least p1 p2 τ = some o' ∧ o.1 = o'.1 ∧ R1 (ux_least σ o) (um_least τ o') := by
  obtain ⟨hT, hW, c, ua, ga, a, i, g, hc1, hg, n19, m29, n29, m24, m25, m26, m27, i30, i31, i32, n33, m28, n34, m30, n35, m31, n3, m14, n12, m15, hSV, hLB, hAR, hIR⟩ := hR
  obtain ⟨w_x, w_y, ne, e1, e2⟩ := q_least hSV p1 p2 (σ.1 0) (τ.1 0) (τ.1 1) (τ.1 2)
  have E1 : fx_least p1 p2 σ = some (w_x, w_y) := by
    show f_X11_least p1 p2 (σ.1 0) (σ.1 19) (σ.2.2.1 17) (σ.2.2.1 18) = _
    rw [n19]; exact e1
  have E2 : fm_least p1 p2 τ = some (w_x, 0, w_y, -1) := by
    show f_X13_least p1 p2 (τ.1 0) (τ.1 1) (τ.1 2) (τ.1 29) (τ.2.2.1 17) = _
    rw [m29]; exact e2
  exact ⟨_, _, E1, E2, rfl, hT, ⟨rfl, (if_neg ne).symm⟩, ⟨c, ua, ga, a, i, g, hc1, hg, n19, m29, n29, m24, m25, m26, m27, i30, i31, i32, n33, m28, n34, m30, n35, m31, n3, m14, n12, m15, hSV, hLB, hAR, hIR⟩⟩
theorem s1_longestRun {σ τ : k_SB} (hR : R1 σ τ) (p1 : Int32) (p2 : Int32) : ∃ o o', fx_longestRun p1 p2 σ = some o ∧ fm_longestRun p1 p2 τ = some o' ∧ o.1 = o'.1 ∧ R1 (ux_longestRun σ o) (um_longestRun τ o') := by
  obtain ⟨hT, hW, c, ua, ga, a, i, g, hc1, hg, n19, m29, n29, m24, m25, m26, m27, i30, i31, i32, n33, m28, n34, m30, n35, m31, n3, m14, n12, m15, hSV, hLB, hAR, hIR⟩ := hR
  obtain ⟨w_x, w_y, w_s_, ne, e1, e2⟩ := q_longestRun p1 p2 (σ.1 0) (τ.1 23) (τ.1 0) (τ.1 1) (τ.1 2) (nI g)
  have E1 : fx_longestRun p1 p2 σ = some (w_x, w_y) := by
    show f_X11_longestRun p1 p2 (σ.1 0) (σ.1 29) (σ.1 33) = _
    rw [n29, n33]; exact e1
  have E2 : fm_longestRun p1 p2 τ = some (w_x, w_s_, 0, w_y, -1) := by
    show f_X13_longestRun p1 p2 (τ.1 23) (τ.1 0) (τ.1 1) (τ.1 2) (τ.1 28) = _
    rw [m28]; exact e2
  exact ⟨_, _, E1, E2, rfl, hT, ⟨rfl, (if_neg ne).symm⟩, ⟨c, ua, ga, a, i, g, hc1, hg, n19, m29, n29, m24, m25, m26, m27, i30, i31, i32, n33, m28, n34, m30, n35, m31, n3, m14, n12, m15, hSV, hLB, hAR, hIR⟩⟩
theorem s1_manyAlike {σ τ : k_SB} (hR : R1 σ τ) (p1 : Int32) (p2 : Int32) : ∃ o o', fx_manyAlike p1 p2 σ = some o ∧ fm_manyAlike p1 p2 τ = some o' ∧ o.1 = o'.1 ∧ R1 (ux_manyAlike σ o) (um_manyAlike τ o') := by
  obtain ⟨hT, hW, c, ua, ga, a, i, g, hc1, hg, n19, m29, n29, m24, m25, m26, m27, i30, i31, i32, n33, m28, n34, m30, n35, m31, n3, m14, n12, m15, hSV, hLB, hAR, hIR⟩ := hR
  obtain ⟨w_x, w_y, ne, e1, e2⟩ := q_manyAlike hSV p1 p2 (σ.1 0) (τ.1 0) (τ.1 1) (τ.1 2)
  have E1 : fx_manyAlike p1 p2 σ = some (w_x, w_y) := by
    show f_X11_manyAlike p1 p2 (σ.1 0) (σ.1 19) (σ.2.2.1 17) (σ.2.2.1 18) = _
    rw [n19]; exact e1
  have E2 : fm_manyAlike p1 p2 τ = some (w_x, 0, w_y, -1) := by
    show f_X13_manyAlike p1 p2 (τ.1 0) (τ.1 1) (τ.1 2) (τ.1 29) (τ.2.2.1 17) = _
    rw [m29]; exact e2
  exact ⟨_, _, E1, E2, rfl, hT, ⟨rfl, (if_neg ne).symm⟩, ⟨c, ua, ga, a, i, g, hc1, hg, n19, m29, n29, m24, m25, m26, m27, i30, i31, i32, n33, m28, n34, m30, n35, m31, n3, m14, n12, m15, hSV, hLB, hAR, hIR⟩⟩
theorem s1_meanSum {σ τ : k_SB} (hR : R1 σ τ) (p1 : Int32) (p2 : Int32) : ∃ o o', fx_meanSum p1 p2 σ = some o ∧ fm_meanSum p1 p2 τ = some o' ∧ o.1 = o'.1 ∧ R1 (ux_meanSum σ o) (um_meanSum τ o') := by
  obtain ⟨hT, hW, c, ua, ga, a, i, g, hc1, hg, n19, m29, n29, m24, m25, m26, m27, i30, i31, i32, n33, m28, n34, m30, n35, m31, n3, m14, n12, m15, hSV, hLB, hAR, hIR⟩ := hR
  obtain ⟨w_x, w_y, ne, e1, e2⟩ := q_meanSum hg p1 p2 (σ.1 0) (τ.1 0) (τ.1 1) (τ.1 2)
  have E1 : fx_meanSum p1 p2 σ = some (w_x, w_y) := by
    show f_X11_meanSum p1 p2 (σ.1 0) (σ.1 29) (σ.1 33) = _
    rw [n29, n33]; exact e1
  have E2 : fm_meanSum p1 p2 τ = some (w_x, 0, w_y, -1) := by
    show f_X13_meanSum p1 p2 (τ.1 0) (τ.1 1) (τ.1 2) (τ.1 28) = _
    rw [m28]; exact e2
  exact ⟨_, _, E1, E2, rfl, hT, ⟨rfl, (if_neg ne).symm⟩, ⟨c, ua, ga, a, i, g, hc1, hg, n19, m29, n29, m24, m25, m26, m27, i30, i31, i32, n33, m28, n34, m30, n35, m31, n3, m14, n12, m15, hSV, hLB, hAR, hIR⟩⟩
theorem s1_odds {σ τ : k_SB} (hR : R1 σ τ) (p1 : Int32) (p2 : Int32) (p3 : Int32) : ∃ o o', fx_odds p1 p2 p3 σ = some o ∧ fm_odds p1 p2 p3 τ = some o' ∧ o.1 = o'.1 ∧ R1 (ux_odds σ o) (um_odds τ o') := by
  obtain ⟨hT, hW, c, ua, ga, a, i, g, hc1, hg, n19, m29, n29, m24, m25, m26, m27, i30, i31, i32, n33, m28, n34, m30, n35, m31, n3, m14, n12, m15, hSV, hLB, hAR, hIR⟩ := hR
  obtain ⟨w_x, w_y, ne, e1, e2⟩ := q_odds hg p1 p2 p3 (σ.1 0) (τ.1 0) (τ.1 1) (τ.1 2)
  have E1 : fx_odds p1 p2 p3 σ = some (w_x, w_y) := by
    show f_X11_odds p1 p2 p3 (σ.1 0) (σ.1 29) (σ.1 33) = _
    rw [n29, n33]; exact e1
  have E2 : fm_odds p1 p2 p3 τ = some (w_x, 0, w_y, -1) := by
    show f_X13_odds p1 p2 p3 (τ.1 0) (τ.1 1) (τ.1 2) (τ.1 28) = _
    rw [m28]; exact e2
  exact ⟨_, _, E1, E2, rfl, hT, ⟨rfl, (if_neg ne).symm⟩, ⟨c, ua, ga, a, i, g, hc1, hg, n19, m29, n29, m24, m25, m26, m27, i30, i31, i32, n33, m28, n34, m30, n35, m31, n3, m14, n12, m15, hSV, hLB, hAR, hIR⟩⟩
theorem s1_out {σ τ : k_SB} (hR : R1 σ τ) (p1 : Int32) (p2 : Int32) : ∃ o o', fx_out p1 p2 σ = some o ∧ fm_out p1 p2 τ = some o' ∧ o.1 = o'.1 ∧ R1 (ux_out σ o) (um_out τ o') := by
  obtain ⟨hT, hW, c, ua, ga, a, i, g, hc1, hg, n19, m29, n29, m24, m25, m26, m27, i30, i31, i32, n33, m28, n34, m30, n35, m31, n3, m14, n12, m15, hSV, hLB, hAR, hIR⟩ := hR
  obtain ⟨w_x, w_y, w_c1, w_s1, w_l1, w_u1, w_w1, ne, e1, e2⟩ := q_out hSV p1 p2 (σ.1 0) (τ.1 0) (τ.1 1) (τ.1 2) (σ.2.2.1 15) (σ.2.2.1 16) (τ.2.2.1 9) (τ.2.2.1 10) (τ.2.2.1 13)
  have E1 : fx_out p1 p2 σ = some (w_x, w_y, w_c1, w_s1) := by
    show f_X11_out p1 p2 (σ.1 0) (σ.1 19) (σ.2.2.1 15) (σ.2.2.1 16) (σ.2.2.1 17) (σ.2.2.1 18) = _
    rw [n19]; exact e1
  have E2 : fm_out p1 p2 τ = some (w_x, 0, w_y, -1, w_l1, w_u1, w_w1) := by
    show f_X13_out p1 p2 (τ.1 0) (τ.1 1) (τ.1 2) (τ.1 29) (τ.2.2.1 9) (τ.2.2.1 10) (τ.2.2.1 13) (τ.2.2.1 17) = _
    rw [m29]; exact e2
  exact ⟨_, _, E1, E2, rfl, hT, ⟨rfl, (if_neg ne).symm⟩, ⟨c, ua, ga, a, i, g, hc1, hg, n19, m29, n29, m24, m25, m26, m27, i30, i31, i32, n33, m28, n34, m30, n35, m31, n3, m14, n12, m15, hSV, hLB, hAR, hIR⟩⟩
theorem s1_outs {σ τ : k_SB} (hR : R1 σ τ) (p1 : Int32) : ∃ o o', fx_outs p1 σ = some o ∧ fm_outs p1 τ = some o' ∧ o.1 = o'.1 ∧ R1 (ux_outs σ o) (um_outs τ o') := by
  obtain ⟨hT, hW, c, ua, ga, a, i, g, hc1, hg, n19, m29, n29, m24, m25, m26, m27, i30, i31, i32, n33, m28, n34, m30, n35, m31, n3, m14, n12, m15, hSV, hLB, hAR, hIR⟩ := hR
  obtain ⟨w_x, w_y, w_c1, w_s1, w_l1, w_u1, w_w1, ne, e1, e2⟩ := q_outs hSV p1 (σ.1 0) (τ.1 0) (τ.1 1) (τ.1 2) (σ.2.2.1 15) (σ.2.2.1 16) (τ.2.2.1 9) (τ.2.2.1 10) (τ.2.2.1 13)
  have E1 : fx_outs p1 σ = some (w_x, w_y, w_c1, w_s1) := by
    show f_X11_outs p1 (σ.1 0) (σ.1 19) (σ.2.2.1 15) (σ.2.2.1 16) (σ.2.2.1 17) (σ.2.2.1 18) = _
    rw [n19]; exact e1
  have E2 : fm_outs p1 τ = some (w_x, 0, w_y, -1, w_l1, w_u1, w_w1) := by
    show f_X13_outs p1 (τ.1 0) (τ.1 1) (τ.1 2) (τ.1 29) (τ.2.2.1 9) (τ.2.2.1 10) (τ.2.2.1 13) (τ.2.2.1 17) = _
    rw [m29]; exact e2
  exact ⟨_, _, E1, E2, rfl, hT, ⟨rfl, (if_neg ne).symm⟩, ⟨c, ua, ga, a, i, g, hc1, hg, n19, m29, n29, m24, m25, m26, m27, i30, i31, i32, n33, m28, n34, m30, n35, m31, n3, m14, n12, m15, hSV, hLB, hAR, hIR⟩⟩
theorem s1_pass {σ τ : k_SB} (hR : R1 σ τ) (p1 : Int32) (p2 : Int32) : ∃ o o', fx_pass p1 p2 σ = some o ∧ fm_pass p1 p2 τ = some o' ∧ o.1 = o'.1 ∧ R1 (ux_pass σ o) (um_pass τ o') := by
  obtain ⟨hT, hW, c, ua, ga, a, i, g, hc1, hg, n19, m29, n29, m24, m25, m26, m27, i30, i31, i32, n33, m28, n34, m30, n35, m31, n3, m14, n12, m15, hSV, hLB, hAR, hIR⟩ := hR
  obtain ⟨w_x, w_y, w_u1_, w_u2_, w_u3_, w_u4_, w_w1_, w_w2_, w_w3_, w_v1_, w_v2_, w_v3_, ne, e1, e2⟩ := q_pass hSV p1 p2 (σ.1 0) (σ.1 16) (σ.1 15) (σ.1 14) (σ.1 13) (τ.1 0) (τ.1 1) (τ.1 2) (σ.1 30) (σ.1 31) (σ.1 32) (σ.2.2.1 12) (σ.2.2.1 13) (σ.2.2.1 14) (τ.2.2.1 0) (τ.2.2.1 11) (τ.2.2.1 15) i30 i31 i32
  have E1 : fx_pass p1 p2 σ = some (w_x, w_y, w_u1_, w_u2_, w_u3_, w_u4_, w_w1_, w_w2_, w_w3_) := by
    show f_X11_pass p1 p2 (σ.1 0) (σ.1 16) (σ.1 15) (σ.1 14) (σ.1 13) (σ.1 19) (σ.1 30) (σ.1 31) (σ.1 32) (σ.2.2.1 12) (σ.2.2.1 13) (σ.2.2.1 14) (σ.2.2.1 17) (σ.2.2.1 18) = _
    rw [n19]; exact e1
  have E2 : fm_pass p1 p2 τ = some (w_x, 0, w_y, -1, w_v1_, w_v2_, w_v3_) := by
    show f_X13_pass p1 p2 (τ.1 0) (τ.1 1) (τ.1 2) (τ.1 25) (τ.1 26) (τ.1 29) (τ.1 27) (τ.2.2.1 0) (τ.2.2.1 11) (τ.2.2.1 15) (τ.2.2.1 17) = _
    rw [m25, m26, m29, m27]; exact e2
  exact ⟨_, _, E1, E2, rfl, hT, ⟨rfl, (if_neg ne).symm⟩, ⟨c, ua, ga, a, i, g, hc1, hg, n19, m29, n29, m24, m25, m26, m27, i30, i31, i32, n33, m28, n34, m30, n35, m31, n3, m14, n12, m15, hSV, hLB, hAR, hIR⟩⟩
theorem s1_relax {σ τ : k_SB} (hR : R1 σ τ) (p1 : Int32) : ∃ o o', fx_relax p1 σ = some o ∧ fm_relax p1 τ = some o' ∧ o.1 = o'.1 ∧ R1 (ux_relax σ o) (um_relax τ o') := by
  obtain ⟨hT, hW, c, ua, ga, a, i, g, hc1, hg, n19, m29, n29, m24, m25, m26, m27, i30, i31, i32, n33, m28, n34, m30, n35, m31, n3, m14, n12, m15, hSV, hLB, hAR, hIR⟩ := hR
  obtain ⟨w_x, w_y, w_u_, w_v_, w_w_, ne, e1, e2⟩ := q_relax hSV p1 (σ.1 0) (σ.1 17) (σ.1 18) (τ.1 18) (τ.1 0) (τ.1 1) (τ.1 2) (σ.1 30) (σ.1 31) (σ.1 32) i30 i31 i32
  have E1 : fx_relax p1 σ = some (w_x, w_y, w_u_, w_v_) := by
    show f_X11_relax p1 (σ.1 0) (σ.1 17) (σ.1 18) (σ.1 19) (σ.1 30) (σ.1 31) (σ.1 32) (σ.2.2.1 17) (σ.2.2.1 18) = _
    rw [n19]; exact e1
  have E2 : fm_relax p1 τ = some (w_x, w_w_, 0, w_y, -1) := by
    show f_X13_relax p1 (τ.1 18) (τ.1 0) (τ.1 1) (τ.1 2) (τ.1 25) (τ.1 26) (τ.1 29) (τ.1 27) (τ.2.2.1 17) = _
    rw [m25, m26, m29, m27]; exact e2
  exact ⟨_, _, E1, E2, rfl, hT, ⟨rfl, (if_neg ne).symm⟩, ⟨c, ua, ga, a, i, g, hc1, hg, n19, m29, n29, m24, m25, m26, m27, i30, i31, i32, n33, m28, n34, m30, n35, m31, n3, m14, n12, m15, hSV, hLB, hAR, hIR⟩⟩
theorem s1_relaxed {σ τ : k_SB} (hR : R1 σ τ) (p1 : Int32) : ∃ o o', fx_relaxed p1 σ = some o ∧ fm_relaxed p1 τ = some o' ∧ o.1 = o'.1 ∧ R1 (ux_relaxed σ o) (um_relaxed τ o') := by
  obtain ⟨hT, hW, c, ua, ga, a, i, g, hc1, hg, n19, m29, n29, m24, m25, m26, m27, i30, i31, i32, n33, m28, n34, m30, n35, m31, n3, m14, n12, m15, hSV, hLB, hAR, hIR⟩ := hR
  obtain ⟨w_x, w_y, w_u_, w_v_, w_w_, ne, e1, e2⟩ := q_relaxed hSV p1 (σ.1 0) (σ.1 17) (σ.1 18) (τ.1 18) (τ.1 0) (τ.1 1) (τ.1 2) (σ.1 30) (σ.1 31) (σ.1 32) i30 i31 i32
  have E1 : fx_relaxed p1 σ = some (w_x, w_y, w_u_, w_v_) := by
    show f_X11_relaxed p1 (σ.1 0) (σ.1 17) (σ.1 18) (σ.1 19) (σ.1 30) (σ.1 31) (σ.1 32) (σ.2.2.1 17) (σ.2.2.1 18) = _
    rw [n19]; exact e1
  have E2 : fm_relaxed p1 τ = some (w_x, w_w_, 0, w_y, -1) := by
    show f_X13_relaxed p1 (τ.1 18) (τ.1 0) (τ.1 1) (τ.1 2) (τ.1 25) (τ.1 26) (τ.1 29) (τ.1 27) (τ.2.2.1 17) = _
    rw [m25, m26, m29, m27]; exact e2
  exact ⟨_, _, E1, E2, rfl, hT, ⟨rfl, (if_neg ne).symm⟩, ⟨c, ua, ga, a, i, g, hc1, hg, n19, m29, n29, m24, m25, m26, m27, i30, i31, i32, n33, m28, n34, m30, n35, m31, n3, m14, n12, m15, hSV, hLB, hAR, hIR⟩⟩
theorem s1_rowOdds {σ τ : k_SB} (hR : R1 σ τ) (p1 : Int32) (p2 : Int32) : ∃ o o', fx_rowOdds p1 p2 σ = some o ∧ fm_rowOdds p1 p2 τ = some o' ∧ o.1 = o'.1 ∧ R1 (ux_rowOdds σ o) (um_rowOdds τ o') := by
  obtain ⟨hT, hW, c, ua, ga, a, i, g, hc1, hg, n19, m29, n29, m24, m25, m26, m27, i30, i31, i32, n33, m28, n34, m30, n35, m31, n3, m14, n12, m15, hSV, hLB, hAR, hIR⟩ := hR
  obtain ⟨w_x, w_y, ne, e1, e2⟩ := q_rowOdds hSV hg p1 p2 (σ.1 0) (τ.1 0) (τ.1 1) (τ.1 2)
  have E1 : fx_rowOdds p1 p2 σ = some (w_x, w_y) := by
    show f_X11_rowOdds p1 p2 (σ.1 0) (σ.1 19) (σ.1 33) (σ.2.2.1 17) (σ.2.2.1 18) = _
    rw [n19, n33]; exact e1
  have E2 : fm_rowOdds p1 p2 τ = some (w_x, 0, w_y, -1) := by
    show f_X13_rowOdds p1 p2 (τ.1 0) (τ.1 1) (τ.1 2) (τ.1 28) (τ.1 29) (τ.2.2.1 17) = _
    rw [m28, m29]; exact e2
  exact ⟨_, _, E1, E2, rfl, hT, ⟨rfl, (if_neg ne).symm⟩, ⟨c, ua, ga, a, i, g, hc1, hg, n19, m29, n29, m24, m25, m26, m27, i30, i31, i32, n33, m28, n34, m30, n35, m31, n3, m14, n12, m15, hSV, hLB, hAR, hIR⟩⟩
theorem s1_run {σ τ : k_SB} (hR : R1 σ τ) (p1 : Int32) (p2 : Int32) : ∃ o o', fx_run p1 p2 σ = some o ∧ fm_run p1 p2 τ = some o' ∧ o.1 = o'.1 ∧ R1 (ux_run σ o) (um_run τ o') := by
  obtain ⟨hT, hW, c, ua, ga, a, i, g, hc1, hg, n19, m29, n29, m24, m25, m26, m27, i30, i31, i32, n33, m28, n34, m30, n35, m31, n3, m14, n12, m15, hSV, hLB, hAR, hIR⟩ := hR
  obtain ⟨w_x, w_y, ne, e1, e2⟩ := q_run hSV p1 p2 (σ.1 0) (τ.1 0) (τ.1 1) (τ.1 2)
  have E1 : fx_run p1 p2 σ = some (w_x, w_y) := by
    show f_X11_run p1 p2 (σ.1 0) (σ.1 19) (σ.2.2.1 17) (σ.2.2.1 18) = _
    rw [n19]; exact e1
  have E2 : fm_run p1 p2 τ = some (w_x, 0, w_y, -1) := by
    show f_X13_run p1 p2 (τ.1 0) (τ.1 1) (τ.1 2) (τ.1 29) (τ.2.2.1 17) = _
    rw [m29]; exact e2
  exact ⟨_, _, E1, E2, rfl, hT, ⟨rfl, (if_neg ne).symm⟩, ⟨c, ua, ga, a, i, g, hc1, hg, n19, m29, n29, m24, m25, m26, m27, i30, i31, i32, n33, m28, n34, m30, n35, m31, n3, m14, n12, m15, hSV, hLB, hAR, hIR⟩⟩
theorem s1_sameLines {σ τ : k_SB} (hR : R1 σ τ) (p1 : Int32) (p2 : Int32) : ∃ o o', fx_sameLines p1 p2 σ = some o ∧ fm_sameLines p1 p2 τ = some o' ∧ o.1 = o'.1 ∧ R1 (ux_sameLines σ o) (um_sameLines τ o') := by
  obtain ⟨hT, hW, c, ua, ga, a, i, g, hc1, hg, n19, m29, n29, m24, m25, m26, m27, i30, i31, i32, n33, m28, n34, m30, n35, m31, n3, m14, n12, m15, hSV, hLB, hAR, hIR⟩ := hR
  obtain ⟨w_x, w_y, w_c1, w_s1, w_l1, w_u1, w_w1, ne, e1, e2⟩ := q_sameLines hSV p1 p2 (σ.1 0) (τ.1 0) (τ.1 1) (τ.1 2) (σ.2.2.1 15) (σ.2.2.1 16) (τ.2.2.1 9) (τ.2.2.1 10) (τ.2.2.1 13)
  have E1 : fx_sameLines p1 p2 σ = some (w_x, w_y, w_c1, w_s1) := by
    show f_X11_sameLines p1 p2 (σ.1 0) (σ.1 19) (σ.2.2.1 15) (σ.2.2.1 16) (σ.2.2.1 17) (σ.2.2.1 18) = _
    rw [n19]; exact e1
  have E2 : fm_sameLines p1 p2 τ = some (w_x, 0, w_y, -1, w_l1, w_u1, w_w1) := by
    show f_X13_sameLines p1 p2 (τ.1 0) (τ.1 1) (τ.1 2) (τ.1 29) (τ.2.2.1 9) (τ.2.2.1 10) (τ.2.2.1 13) (τ.2.2.1 17) = _
    rw [m29]; exact e2
  exact ⟨_, _, E1, E2, rfl, hT, ⟨rfl, (if_neg ne).symm⟩, ⟨c, ua, ga, a, i, g, hc1, hg, n19, m29, n29, m24, m25, m26, m27, i30, i31, i32, n33, m28, n34, m30, n35, m31, n3, m14, n12, m15, hSV, hLB, hAR, hIR⟩⟩
theorem s1_share {σ τ : k_SB} (hR : R1 σ τ) (p1 : Int32) (p2 : Int32) : ∃ o o', fx_share p1 p2 σ = some o ∧ fm_share p1 p2 τ = some o' ∧ o.1 = o'.1 ∧ R1 (ux_share σ o) (um_share τ o') := by
  obtain ⟨hT, hW, c, ua, ga, a, i, g, hc1, hg, n19, m29, n29, m24, m25, m26, m27, i30, i31, i32, n33, m28, n34, m30, n35, m31, n3, m14, n12, m15, hSV, hLB, hAR, hIR⟩ := hR
  obtain ⟨w_x, w_y, ne, e1, e2⟩ := q_share hSV p1 p2 (σ.1 0) (τ.1 0) (τ.1 1) (τ.1 2)
  have E1 : fx_share p1 p2 σ = some (w_x, w_y) := by
    show f_X11_share p1 p2 (σ.1 0) (σ.1 19) (σ.2.2.1 17) (σ.2.2.1 18) = _
    rw [n19]; exact e1
  have E2 : fm_share p1 p2 τ = some (w_x, 0, w_y, -1) := by
    show f_X13_share p1 p2 (τ.1 0) (τ.1 1) (τ.1 2) (τ.1 29) (τ.2.2.1 17) = _
    rw [m29]; exact e2
  exact ⟨_, _, E1, E2, rfl, hT, ⟨rfl, (if_neg ne).symm⟩, ⟨c, ua, ga, a, i, g, hc1, hg, n19, m29, n29, m24, m25, m26, m27, i30, i31, i32, n33, m28, n34, m30, n35, m31, n3, m14, n12, m15, hSV, hLB, hAR, hIR⟩⟩
theorem s1_size {σ τ : k_SB} (hR : R1 σ τ) (p1 : Int32) : ∃ o o', fx_size p1 σ = some o ∧ fm_size p1 τ = some o' ∧ o = o'.1 ∧ R1 (ux_size σ o) (um_size τ o') := by
  obtain ⟨hT, hW, c, ua, ga, a, i, g, hc1, hg, n19, m29, n29, m24, m25, m26, m27, i30, i31, i32, n33, m28, n34, m30, n35, m31, n3, m14, n12, m15, hSV, hLB, hAR, hIR⟩ := hR
  have hT' := hT
  obtain ⟨⟨T, hT5, n28, k3, hTb⟩, -⟩ := hT'
  obtain ⟨w_x, e1, e2⟩ := q_size p1 (nI a) (nI i) (nI c) (nI T) (nI ga) (nI g) (σ.1 30) (σ.1 31) (σ.1 32) (nI ua) (τ.1 0)
  have E1 : fx_size p1 σ = some w_x := by
    show f_X11_size p1 (σ.1 3) (σ.1 12) (σ.1 19) (σ.1 28) (σ.1 35) (σ.1 29) (σ.1 33) (σ.1 30) (σ.1 31) (σ.1 32) (σ.1 34) = _
    rw [n3, n12, n19, n28, n35, n29, n33, n34]; exact e1
  have E2 : fm_size p1 τ = some (w_x, 0) := by
    show f_X13_size p1 (τ.1 14) (τ.1 15) (τ.1 3) (τ.1 0) (τ.1 31) (τ.1 28) (τ.1 25) (τ.1 26) (τ.1 29) (τ.1 27) (τ.1 30) = _
    rw [m14, m15, k3, m31, m28, m25, m26, m29, m27, m30]; exact e2
  exact ⟨_, _, E1, E2, rfl, hT, hW, ⟨c, ua, ga, a, i, g, hc1, hg, n19, m29, n29, m24, m25, m26, m27, i30, i31, i32, n33, m28, n34, m30, n35, m31, n3, m14, n12, m15, hSV, hLB, hAR, hIR⟩⟩
theorem s1_slip {σ τ : k_SB} (hR : R1 σ τ) (p1 : Int32) (p2 : Int32) : ∃ o o', fx_slip p1 p2 σ = some o ∧ fm_slip p1 p2 τ = some o' ∧ o.1 = o'.1 ∧ R1 (ux_slip σ o) (um_slip τ o') := by
  obtain ⟨hT, hW, c, ua, ga, a, i, g, hc1, hg, n19, m29, n29, m24, m25, m26, m27, i30, i31, i32, n33, m28, n34, m30, n35, m31, n3, m14, n12, m15, hSV, hLB, hAR, hIR⟩ := hR
  obtain ⟨w_x, w_y, w_a_, w_ch_, w_al_, w_ar_, w_P_, w_L_, w_R_, w_V_, ne, hSV', hAR', e1, e2⟩ := q_slip hSV hAR p1 p2 (σ.1 0) (τ.1 0) (τ.1 1) (τ.1 2)
  have E1 : fx_slip p1 p2 σ = some (w_x, w_y, nI w_a_, w_ch_, w_al_, w_ar_, w_L_, w_R_) := by
    show f_X11_slip p1 p2 (σ.1 0) (σ.1 3) (σ.1 19) (σ.2.2.1 0) (σ.2.2.1 1) (σ.2.2.1 2) (σ.2.2.1 17) (σ.2.2.1 18) = _
    rw [n3, n19]; exact e1
  have E2 : fm_slip p1 p2 τ = some (w_x, nI w_a_, 0, w_y, -1, w_P_, w_V_) := by
    show f_X13_slip p1 p2 (τ.1 14) (τ.1 0) (τ.1 1) (τ.1 2) (τ.1 29) (τ.2.2.1 14) (τ.2.2.1 17) = _
    rw [m14, m29]; exact e2
  exact ⟨_, _, E1, E2, rfl, hT, ⟨rfl, (if_neg ne).symm⟩, ⟨c, ua, ga, w_a_, i, g, hc1, hg, n19, m29, n29, m24, m25, m26, m27, i30, i31, i32, n33, m28, n34, m30, n35, m31, rfl, rfl, n12, m15, hSV', hLB, hAR', hIR⟩⟩
theorem s1_slipEnergy {σ τ : k_SB} (hR : R1 σ τ) (p1 : Int32) (p2 : Int32) : ∃ o o', fx_slipEnergy p1 p2 σ = some o ∧ fm_slipEnergy p1 p2 τ = some o' ∧ o.1 = o'.1 ∧ R1 (ux_slipEnergy σ o) (um_slipEnergy τ o') := by
  obtain ⟨hT, hW, c, ua, ga, a, i, g, hc1, hg, n19, m29, n29, m24, m25, m26, m27, i30, i31, i32, n33, m28, n34, m30, n35, m31, n3, m14, n12, m15, hSV, hLB, hAR, hIR⟩ := hR
  obtain ⟨w_x, w_y, ne, e1, e2⟩ := q_slipEnergy hSV p1 p2 (σ.1 0) (τ.1 0) (τ.1 1) (τ.1 2) (σ.1 30) (σ.1 31) (σ.1 32)
  have E1 : fx_slipEnergy p1 p2 σ = some (w_x, w_y) := by
    show f_X11_slipEnergy p1 p2 (σ.1 0) (σ.1 19) (σ.1 30) (σ.1 31) (σ.1 32) (σ.2.2.1 17) (σ.2.2.1 18) = _
    rw [n19]; exact e1
  have E2 : fm_slipEnergy p1 p2 τ = some (w_x, 0, w_y, -1) := by
    show f_X13_slipEnergy p1 p2 (τ.1 0) (τ.1 1) (τ.1 2) (τ.1 25) (τ.1 26) (τ.1 29) (τ.1 27) (τ.2.2.1 17) = _
    rw [m25, m26, m29, m27]; exact e2
  exact ⟨_, _, E1, E2, rfl, hT, ⟨rfl, (if_neg ne).symm⟩, ⟨c, ua, ga, a, i, g, hc1, hg, n19, m29, n29, m24, m25, m26, m27, i30, i31, i32, n33, m28, n34, m30, n35, m31, n3, m14, n12, m15, hSV, hLB, hAR, hIR⟩⟩
theorem s1_slips {σ τ : k_SB} (hR : R1 σ τ) (p1 : Int32) (p2 : Int32) (p3 : Int32) : ∃ o o', fx_slips p1 p2 p3 σ = some o ∧ fm_slips p1 p2 p3 τ = some o' ∧ o.1 = o'.1 ∧ R1 (ux_slips σ o) (um_slips τ o') := by
  obtain ⟨hT, hW, c, ua, ga, a, i, g, hc1, hg, n19, m29, n29, m24, m25, m26, m27, i30, i31, i32, n33, m28, n34, m30, n35, m31, n3, m14, n12, m15, hSV, hLB, hAR, hIR⟩ := hR
  obtain ⟨w_x, w_y, ne, e1, e2⟩ := q_slips hSV p1 p2 p3 (σ.1 0) (τ.1 0) (τ.1 1) (τ.1 2)
  have E1 : fx_slips p1 p2 p3 σ = some (w_x, w_y) := by
    show f_X11_slips p1 p2 p3 (σ.1 0) (σ.1 19) (σ.2.2.1 17) (σ.2.2.1 18) = _
    rw [n19]; exact e1
  have E2 : fm_slips p1 p2 p3 τ = some (w_x, 0, w_y, -1) := by
    show f_X13_slips p1 p2 p3 (τ.1 0) (τ.1 1) (τ.1 2) (τ.1 29) (τ.2.2.1 17) = _
    rw [m29]; exact e2
  exact ⟨_, _, E1, E2, rfl, hT, ⟨rfl, (if_neg ne).symm⟩, ⟨c, ua, ga, a, i, g, hc1, hg, n19, m29, n29, m24, m25, m26, m27, i30, i31, i32, n33, m28, n34, m30, n35, m31, n3, m14, n12, m15, hSV, hLB, hAR, hIR⟩⟩
theorem s1_stack {σ τ : k_SB} (hR : R1 σ τ) (p1 : Int32) (p2 : Int32) : ∃ o o', fx_stack p1 p2 σ = some o ∧ fm_stack p1 p2 τ = some o' ∧ o.1 = o'.1 ∧ R1 (ux_stack σ o) (um_stack τ o') := by
  obtain ⟨hT, hW, c, ua, ga, a, i, g, hc1, hg, n19, m29, n29, m24, m25, m26, m27, i30, i31, i32, n33, m28, n34, m30, n35, m31, n3, m14, n12, m15, hSV, hLB, hAR, hIR⟩ := hR
  obtain ⟨w_x, w_y, ne, e1, e2⟩ := q_stack hSV p1 p2 (σ.1 0) (τ.1 0) (τ.1 1) (τ.1 2)
  have E1 : fx_stack p1 p2 σ = some (w_x, w_y) := by
    show f_X11_stack p1 p2 (σ.1 0) (σ.1 19) (σ.2.2.1 17) (σ.2.2.1 18) = _
    rw [n19]; exact e1
  have E2 : fm_stack p1 p2 τ = some (w_x, 0, w_y, -1) := by
    show f_X13_stack p1 p2 (τ.1 0) (τ.1 1) (τ.1 2) (τ.1 29) (τ.2.2.1 17) = _
    rw [m29]; exact e2
  exact ⟨_, _, E1, E2, rfl, hT, ⟨rfl, (if_neg ne).symm⟩, ⟨c, ua, ga, a, i, g, hc1, hg, n19, m29, n29, m24, m25, m26, m27, i30, i31, i32, n33, m28, n34, m30, n35, m31, n3, m14, n12, m15, hSV, hLB, hAR, hIR⟩⟩
theorem s1_sum {σ τ : k_SB} (hR : R1 σ τ) (p1 : Int32) : ∃ o o', fx_sum p1 σ = some o ∧ fm_sum p1 τ = some o' ∧ o.1 = o'.1 ∧ R1 (ux_sum σ o) (um_sum τ o') := by
  obtain ⟨hT, hW, c, ua, ga, a, i, g, hc1, hg, n19, m29, n29, m24, m25, m26, m27, i30, i31, i32, n33, m28, n34, m30, n35, m31, n3, m14, n12, m15, hSV, hLB, hAR, hIR⟩ := hR
  obtain ⟨w_x, w_y, ne, e1, e2⟩ := q_sum hSV p1 (σ.1 0) (τ.1 0) (τ.1 1) (τ.1 2)
  have E1 : fx_sum p1 σ = some (w_x, w_y) := by
    show f_X11_sum p1 (σ.1 0) (σ.1 19) (σ.2.2.1 17) (σ.2.2.1 18) = _
    rw [n19]; exact e1
  have E2 : fm_sum p1 τ = some (w_x, 0, w_y, -1) := by
    show f_X13_sum p1 (τ.1 0) (τ.1 1) (τ.1 2) (τ.1 29) (τ.2.2.1 17) = _
    rw [m29]; exact e2
  exact ⟨_, _, E1, E2, rfl, hT, ⟨rfl, (if_neg ne).symm⟩, ⟨c, ua, ga, a, i, g, hc1, hg, n19, m29, n29, m24, m25, m26, m27, i30, i31, i32, n33, m28, n34, m30, n35, m31, n3, m14, n12, m15, hSV, hLB, hAR, hIR⟩⟩
theorem s1_surely {σ τ : k_SB} (hR : R1 σ τ)  : ∃ o o', fx_surely  σ = some o ∧ fm_surely  τ = some o' ∧ o.1 = o'.1 ∧ R1 (ux_surely σ o) (um_surely τ o') := by
  obtain ⟨hT, hW, c, ua, ga, a, i, g, hc1, hg, n19, m29, n29, m24, m25, m26, m27, i30, i31, i32, n33, m28, n34, m30, n35, m31, n3, m14, n12, m15, hSV, hLB, hAR, hIR⟩ := hR
  obtain ⟨w_x, w_y, w_ev_, w_fn_, w_so_, w_u_, w_w_, ne, e1, e2⟩ := q_surely hLB (σ.1 0) (τ.1 21) (τ.1 19) (τ.1 20) (τ.1 0) (τ.1 1) (τ.1 2) (τ.2.2.1 10) (τ.2.2.1 12)
  have E1 : fx_surely  σ = some (w_x, w_y) := by
    show f_X11_surely (σ.1 0) (σ.1 35) (σ.1 29) (σ.1 34) (σ.2.2.1 20) (σ.2.2.1 21) (σ.2.2.1 22) (σ.2.2.1 23) (σ.2.2.1 24) (σ.2.2.1 25) (σ.2.2.1 26) = _
    rw [n35, n29, n34]; exact e1
  have E2 : fm_surely  τ = some (w_x, w_ev_, w_fn_, w_so_, 0, w_y, -1, w_u_, w_w_) := by
    show f_X13_surely (τ.1 21) (τ.1 19) (τ.1 20) (τ.1 0) (τ.1 1) (τ.1 2) (τ.1 31) (τ.1 30) (τ.2.2.1 2) (τ.2.2.1 3) (τ.2.2.1 4) (τ.2.2.1 5) (τ.2.2.1 6) (τ.2.2.1 7) (τ.2.2.1 8) (τ.2.2.1 10) (τ.2.2.1 12) = _
    rw [m31, m30]; exact e2
  exact ⟨_, _, E1, E2, rfl, hT, ⟨rfl, (if_neg ne).symm⟩, ⟨c, ua, ga, a, i, g, hc1, hg, n19, m29, n29, m24, m25, m26, m27, i30, i31, i32, n33, m28, n34, m30, n35, m31, n3, m14, n12, m15, hSV, hLB, hAR, hIR⟩⟩
theorem s1_turn {σ τ : k_SB} (hR : R1 σ τ) (p1 : Int32) : ∃ o o', fx_turn p1 σ = some o ∧ fm_turn p1 τ = some o' ∧ o.1 = o'.1 ∧ R1 (ux_turn σ o) (um_turn τ o') := by
  obtain ⟨hT, hW, c, ua, ga, a, i, g, hc1, hg, n19, m29, n29, m24, m25, m26, m27, i30, i31, i32, n33, m28, n34, m30, n35, m31, n3, m14, n12, m15, hSV, hLB, hAR, hIR⟩ := hR
  obtain ⟨w_x, w_y, w_a_, w_ch_, w_al_, w_ar_, w_P_, w_L_, w_R_, w_V_, ne, hSV', hAR', e1, e2⟩ := q_turn hSV hAR p1 (σ.1 0) (τ.1 0) (τ.1 1) (τ.1 2)
  have E1 : fx_turn p1 σ = some (w_x, w_y, nI w_a_, w_ch_, w_al_, w_ar_, w_L_, w_R_) := by
    show f_X11_turn p1 (σ.1 0) (σ.1 3) (σ.1 19) (σ.2.2.1 0) (σ.2.2.1 1) (σ.2.2.1 2) (σ.2.2.1 17) (σ.2.2.1 18) = _
    rw [n3, n19]; exact e1
  have E2 : fm_turn p1 τ = some (w_x, nI w_a_, 0, w_y, -1, w_P_, w_V_) := by
    show f_X13_turn p1 (τ.1 14) (τ.1 0) (τ.1 1) (τ.1 2) (τ.1 29) (τ.2.2.1 14) (τ.2.2.1 17) = _
    rw [m14, m29]; exact e2
  exact ⟨_, _, E1, E2, rfl, hT, ⟨rfl, (if_neg ne).symm⟩, ⟨c, ua, ga, w_a_, i, g, hc1, hg, n19, m29, n29, m24, m25, m26, m27, i30, i31, i32, n33, m28, n34, m30, n35, m31, rfl, rfl, n12, m15, hSV', hLB, hAR', hIR⟩⟩
theorem s1_twin {σ τ : k_SB} (hR : R1 σ τ) (p1 : Int32) : ∃ o o', fx_twin p1 σ = some o ∧ fm_twin p1 τ = some o' ∧ o.1 = o'.1 ∧ R1 (ux_twin σ o) (um_twin τ o') := by
  obtain ⟨hT, hW, c, ua, ga, a, i, g, hc1, hg, n19, m29, n29, m24, m25, m26, m27, i30, i31, i32, n33, m28, n34, m30, n35, m31, n3, m14, n12, m15, hSV, hLB, hAR, hIR⟩ := hR
  obtain ⟨w_x, w_y, w_a_, w_ch_, w_al_, w_ar_, w_P_, w_L_, w_R_, w_V_, ne, hSV', hAR', e1, e2⟩ := q_twin hSV hAR p1 (σ.1 0) (τ.1 0) (τ.1 1) (τ.1 2)
  have E1 : fx_twin p1 σ = some (w_x, w_y, nI w_a_, w_ch_, w_al_, w_ar_, w_L_, w_R_) := by
    show f_X11_twin p1 (σ.1 0) (σ.1 3) (σ.1 19) (σ.2.2.1 0) (σ.2.2.1 1) (σ.2.2.1 2) (σ.2.2.1 17) (σ.2.2.1 18) = _
    rw [n3, n19]; exact e1
  have E2 : fm_twin p1 τ = some (w_x, nI w_a_, 0, w_y, -1, w_P_, w_V_) := by
    show f_X13_twin p1 (τ.1 14) (τ.1 0) (τ.1 1) (τ.1 2) (τ.1 29) (τ.2.2.1 14) (τ.2.2.1 17) = _
    rw [m14, m29]; exact e2
  exact ⟨_, _, E1, E2, rfl, hT, ⟨rfl, (if_neg ne).symm⟩, ⟨c, ua, ga, w_a_, i, g, hc1, hg, n19, m29, n29, m24, m25, m26, m27, i30, i31, i32, n33, m28, n34, m30, n35, m31, rfl, rfl, n12, m15, hSV', hLB, hAR', hIR⟩⟩
theorem s1_undo {σ τ : k_SB} (hR : R1 σ τ)  : ∃ o o', fx_undo  σ = some o ∧ fm_undo  τ = some o' ∧ o.1 = o'.1 ∧ R1 (ux_undo σ o) (um_undo τ o') := by
  obtain ⟨hT, hW, c, ua, ga, a, i, g, hc1, hg, n19, m29, n29, m24, m25, m26, m27, i30, i31, i32, n33, m28, n34, m30, n35, m31, n3, m14, n12, m15, hSV, hLB, hAR, hIR⟩ := hR
  obtain ⟨w_x, w_y, w_a_, w_L_, w_R_, w_V_, ne, hSV', hAR', e1, e2⟩ := q_undo hSV hAR (σ.1 0) (τ.1 0) (τ.1 1) (τ.1 2)
  have E1 : fx_undo  σ = some (w_x, w_y, nI w_a_, w_L_, w_R_) := by
    show f_X11_undo (σ.1 0) (σ.1 3) (σ.2.2.1 0) (σ.2.2.1 1) (σ.2.2.1 2) (σ.2.2.1 17) (σ.2.2.1 18) = _
    rw [n3]; exact e1
  have E2 : fm_undo  τ = some (w_x, nI w_a_, 0, w_y, -1, w_V_) := by
    show f_X13_undo (τ.1 14) (τ.1 0) (τ.1 1) (τ.1 2) (τ.2.2.1 14) (τ.2.2.1 17) = _
    rw [m14]; exact e2
  exact ⟨_, _, E1, E2, rfl, hT, ⟨rfl, (if_neg ne).symm⟩, ⟨c, ua, ga, w_a_, i, g, hc1, hg, n19, m29, n29, m24, m25, m26, m27, i30, i31, i32, n33, m28, n34, m30, n35, m31, rfl, rfl, n12, m15, hSV', hLB, hAR', hIR⟩⟩
theorem s1_valley {σ τ : k_SB} (hR : R1 σ τ) (p1 : Int32) : ∃ o o', fx_valley p1 σ = some o ∧ fm_valley p1 τ = some o' ∧ o.1 = o'.1 ∧ R1 (ux_valley σ o) (um_valley τ o') := by
  obtain ⟨hT, hW, c, ua, ga, a, i, g, hc1, hg, n19, m29, n29, m24, m25, m26, m27, i30, i31, i32, n33, m28, n34, m30, n35, m31, n3, m14, n12, m15, hSV, hLB, hAR, hIR⟩ := hR
  obtain ⟨w_x, w_y, w_u1_, w_u2_, w_u3_, w_u4_, w_w1_, w_w2_, w_w3_, w_v1_, w_v2_, w_v3_, ne, e1, e2⟩ := q_valley hSV p1 (σ.1 0) (σ.1 16) (σ.1 15) (σ.1 14) (σ.1 13) (τ.1 0) (τ.1 1) (τ.1 2) (σ.1 30) (σ.1 31) (σ.1 32) (σ.2.2.1 12) (σ.2.2.1 13) (σ.2.2.1 14) (τ.2.2.1 0) (τ.2.2.1 11) (τ.2.2.1 15)
  have E1 : fx_valley p1 σ = some (w_x, w_y, w_u1_, w_u2_, w_u3_, w_u4_, w_w1_, w_w2_, w_w3_) := by
    show f_X11_valley p1 (σ.1 0) (σ.1 16) (σ.1 15) (σ.1 14) (σ.1 13) (σ.1 19) (σ.1 30) (σ.1 31) (σ.1 32) (σ.2.2.1 12) (σ.2.2.1 13) (σ.2.2.1 14) (σ.2.2.1 17) (σ.2.2.1 18) = _
    rw [n19]; exact e1
  have E2 : fm_valley p1 τ = some (w_x, 0, w_y, -1, w_v1_, w_v2_, w_v3_) := by
    show f_X13_valley p1 (τ.1 0) (τ.1 1) (τ.1 2) (τ.1 25) (τ.1 26) (τ.1 29) (τ.1 27) (τ.2.2.1 0) (τ.2.2.1 11) (τ.2.2.1 15) (τ.2.2.1 17) = _
    rw [m25, m26, m29, m27]; exact e2
  exact ⟨_, _, E1, E2, rfl, hT, ⟨rfl, (if_neg ne).symm⟩, ⟨c, ua, ga, a, i, g, hc1, hg, n19, m29, n29, m24, m25, m26, m27, i30, i31, i32, n33, m28, n34, m30, n35, m31, n3, m14, n12, m15, hSV, hLB, hAR, hIR⟩⟩
theorem s1_weakest {σ τ : k_SB} (hR : R1 σ τ) (p1 : Int32) : ∃ o o', fx_weakest p1 σ = some o ∧ fm_weakest p1 τ = some o' ∧ o.1 = o'.1 ∧ R1 (ux_weakest σ o) (um_weakest τ o') := by
  obtain ⟨hT, hW, c, ua, ga, a, i, g, hc1, hg, n19, m29, n29, m24, m25, m26, m27, i30, i31, i32, n33, m28, n34, m30, n35, m31, n3, m14, n12, m15, hSV, hLB, hAR, hIR⟩ := hR
  obtain ⟨w_x, w_y, ne, e1, e2⟩ := q_weakest hSV p1 (σ.1 0) (τ.1 0) (τ.1 1) (τ.1 2) (σ.1 30) (σ.1 31) (σ.1 32)
  have E1 : fx_weakest p1 σ = some (w_x, w_y) := by
    show f_X11_weakest p1 (σ.1 0) (σ.1 19) (σ.1 30) (σ.1 31) (σ.1 32) (σ.2.2.1 17) (σ.2.2.1 18) = _
    rw [n19]; exact e1
  have E2 : fm_weakest p1 τ = some (w_x, 0, w_y, -1) := by
    show f_X13_weakest p1 (τ.1 0) (τ.1 1) (τ.1 2) (τ.1 25) (τ.1 26) (τ.1 29) (τ.1 27) (τ.2.2.1 17) = _
    rw [m25, m26, m29, m27]; exact e2
  exact ⟨_, _, E1, E2, rfl, hT, ⟨rfl, (if_neg ne).symm⟩, ⟨c, ua, ga, a, i, g, hc1, hg, n19, m29, n29, m24, m25, m26, m27, i30, i31, i32, n33, m28, n34, m30, n35, m31, n3, m14, n12, m15, hSV, hLB, hAR, hIR⟩⟩
