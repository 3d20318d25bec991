/-! NO LAB YET -/
def R0 (σ τ : k_SB) : Prop := RT σ τ ∧ RW σ τ ∧ σ.1 19 = 0 ∧ σ.1 29 = 0 ∧ σ.1 33 = 0 ∧ σ.1 34 = 0 ∧ σ.1 35 = 0 ∧ σ.1 3 = 0 ∧ σ.1 12 = 0
theorem lk0 (p : Int32) : f_X11_lacks p 0 = some 1 := by
  rw [f_X11_lacks]
  by_cases h : p < 0
  · rw [if_pos h]
  · rw [if_neg h, if_neg h]
theorem s0_agree {σ τ : k_SB} (hR : R0 σ τ) (p1 : Int32) (p2 : Int32) : ∃ o o', fx_agree p1 p2 σ = some o ∧ fn_agree p1 p2 τ = some o' ∧ o.1 = o'.1 ∧ R0 (ux_agree σ o) (un_agree τ o') := by
  obtain ⟨hT, hW, n19, n29, n33, n34, n35, n3, n12⟩ := hR
  show ∃ o o', f_X11_agree p1 p2 (σ.1 0) (σ.1 19) (σ.2.2.1 17) (σ.2.2.1 18) = some o ∧ f_X13_agree_0 p1 p2 (τ.1 0) (τ.1 1) (τ.1 2) (τ.2.2.1 10) (τ.2.2.1 17) = some o' ∧ o.1 = o'.1 ∧ R0 (ux_agree σ o) (un_agree τ o')
  rw [n19, f_X11_agree, lk0]
  exact ⟨_, _, rfl, rfl, rfl, hT, ⟨rfl, (if_neg (show ¬ (1 : Int32) = 4 by decide)).symm⟩, n19, n29, n33, n34, n35, n3, n12⟩
theorem s0_alike {σ τ : k_SB} (hR : R0 σ τ) (p1 : Int32) (p2 : Int32) (p3 : Int32) : ∃ o o', fx_alike p1 p2 p3 σ = some o ∧ fn_alike p1 p2 p3 τ = some o' ∧ o.1 = o'.1 ∧ R0 (ux_alike σ o) (un_alike τ o') := by
  obtain ⟨hT, hW, n19, n29, n33, n34, n35, n3, n12⟩ := hR
  show ∃ o o', f_X11_alike p1 p2 p3 (σ.1 0) (σ.1 19) (σ.2.2.1 17) (σ.2.2.1 18) = some o ∧ f_X13_alike_0 p1 p2 p3 (τ.1 0) (τ.1 1) (τ.1 2) (τ.2.2.1 17) = some o' ∧ o.1 = o'.1 ∧ R0 (ux_alike σ o) (un_alike τ o')
  rw [n19, f_X11_alike, lk0]
  exact ⟨_, _, rfl, rfl, rfl, hT, ⟨rfl, (if_neg (show ¬ (1 : Int32) = 4 by decide)).symm⟩, n19, n29, n33, n34, n35, n3, n12⟩
theorem s0_ask {σ τ : k_SB} (hR : R0 σ τ)  : ∃ o o', fx_ask  σ = some o ∧ fn_ask  τ = some o' ∧ o.1 = o'.1 ∧ R0 (ux_ask σ o) (un_ask τ o') := by
  obtain ⟨hT, hW, n19, n29, n33, n34, n35, n3, n12⟩ := hR
  show ∃ o o', f_X11_ask (σ.1 0) (σ.1 35) (σ.1 29) (σ.1 34) (σ.2.2.1 20) (σ.2.2.1 21) (σ.2.2.1 22) (σ.2.2.1 23) (σ.2.2.1 24) (σ.2.2.1 25) (σ.2.2.1 26) = some o ∧ f_X13_ask_0 (τ.1 0) (τ.1 1) (τ.1 2) = some o' ∧ o.1 = o'.1 ∧ R0 (ux_ask σ o) (un_ask τ o')
  rw [n29, f_X11_ask]
  exact ⟨_, _, rfl, rfl, rfl, hT, ⟨rfl, (if_neg (show ¬ (1 : Int32) = 4 by decide)).symm⟩, n19, n29, n33, n34, n35, n3, n12⟩
theorem s0_askLeaves {σ τ : k_SB} (hR : R0 σ τ)  : ∃ o o', fx_askLeaves  σ = some o ∧ fn_askLeaves  τ = some o' ∧ o.1 = o'.1 ∧ R0 (ux_askLeaves σ o) (un_askLeaves τ o') := by
  obtain ⟨hT, hW, n19, n29, n33, n34, n35, n3, n12⟩ := hR
  show ∃ o o', f_X11_askLeaves (σ.1 0) (σ.1 35) (σ.1 29) (σ.1 34) (σ.2.2.1 20) (σ.2.2.1 21) (σ.2.2.1 22) (σ.2.2.1 23) (σ.2.2.1 24) (σ.2.2.1 25) (σ.2.2.1 26) = some o ∧ f_X13_askLeaves_0 (τ.1 0) (τ.1 1) (τ.1 2) = some o' ∧ o.1 = o'.1 ∧ R0 (ux_askLeaves σ o) (un_askLeaves τ o')
  rw [n29, f_X11_askLeaves]
  exact ⟨_, _, rfl, rfl, rfl, hT, ⟨rfl, (if_neg (show ¬ (1 : Int32) = 4 by decide)).symm⟩, n19, n29, n33, n34, n35, n3, n12⟩
theorem s0_bestFault {σ τ : k_SB} (hR : R0 σ τ) (p1 : Int32) : ∃ o o', fx_bestFault p1 σ = some o ∧ fn_bestFault p1 τ = some o' ∧ o.1 = o'.1 ∧ R0 (ux_bestFault σ o) (un_bestFault τ o') := by
  obtain ⟨hT, hW, n19, n29, n33, n34, n35, n3, n12⟩ := hR
  show ∃ o o', f_X11_bestFault p1 (σ.1 0) (σ.1 19) (σ.1 30) (σ.1 31) (σ.1 32) (σ.2.2.1 17) (σ.2.2.1 18) = some o ∧ f_X13_bestFault_0 p1 (τ.1 0) (τ.1 1) (τ.1 2) (τ.2.2.1 17) = some o' ∧ o.1 = o'.1 ∧ R0 (ux_bestFault σ o) (un_bestFault τ o')
  rw [n19, f_X11_bestFault, lk0]
  exact ⟨_, _, rfl, rfl, rfl, hT, ⟨rfl, (if_neg (show ¬ (1 : Int32) = 4 by decide)).symm⟩, n19, n29, n33, n34, n35, n3, n12⟩
theorem s0_calmest {σ τ : k_SB} (hR : R0 σ τ)  : ∃ o o', fx_calmest  σ = some o ∧ fn_calmest  τ = some o' ∧ o.1 = o'.1 ∧ R0 (ux_calmest σ o) (un_calmest τ o') := by
  obtain ⟨hT, hW, n19, n29, n33, n34, n35, n3, n12⟩ := hR
  show ∃ o o', f_X11_calmest (σ.1 0) (σ.1 19) (σ.1 29) (σ.1 30) (σ.1 31) (σ.1 32) (σ.2.2.1 17) (σ.2.2.1 18) = some o ∧ f_X13_calmest_0 (τ.1 0) (τ.1 1) (τ.1 2) = some o' ∧ o.1 = o'.1 ∧ R0 (ux_calmest σ o) (un_calmest τ o')
  rw [n19, n29, f_X11_calmest]
  exact ⟨_, _, rfl, rfl, rfl, hT, ⟨rfl, (if_neg (show ¬ (1 : Int32) = 4 by decide)).symm⟩, n19, n29, n33, n34, n35, n3, n12⟩
theorem s0_could {σ τ : k_SB} (hR : R0 σ τ)  : ∃ o o', fx_could  σ = some o ∧ fn_could  τ = some o' ∧ o.1 = o'.1 ∧ R0 (ux_could σ o) (un_could τ o') := by
  obtain ⟨hT, hW, n19, n29, n33, n34, n35, n3, n12⟩ := hR
  show ∃ o o', f_X11_could (σ.1 0) (σ.1 35) (σ.1 29) (σ.1 34) (σ.2.2.1 20) (σ.2.2.1 21) (σ.2.2.1 22) (σ.2.2.1 23) (σ.2.2.1 24) (σ.2.2.1 25) (σ.2.2.1 26) = some o ∧ f_X13_could_0 (τ.1 0) (τ.1 1) (τ.1 2) = some o' ∧ o.1 = o'.1 ∧ R0 (ux_could σ o) (un_could τ o')
  rw [n29, f_X11_could]
  exact ⟨_, _, rfl, rfl, rfl, hT, ⟨rfl, (if_neg (show ¬ (1 : Int32) = 4 by decide)).symm⟩, n19, n29, n33, n34, n35, n3, n12⟩
theorem s0_cut {σ τ : k_SB} (hR : R0 σ τ) (p1 : Int32) : ∃ o o', fx_cut p1 σ = some o ∧ fn_cut p1 τ = some o' ∧ o.1 = o'.1 ∧ R0 (ux_cut σ o) (un_cut τ o') := by
  obtain ⟨hT, hW, n19, n29, n33, n34, n35, n3, n12⟩ := hR
  show ∃ o o', f_X11_cut p1 (σ.1 0) (σ.1 3) (σ.1 19) (σ.2.2.1 0) (σ.2.2.1 1) (σ.2.2.1 2) (σ.2.2.1 17) (σ.2.2.1 18) = some o ∧ f_X13_cut_0 p1 (τ.1 14) (τ.1 0) (τ.1 1) (τ.1 2) (τ.2.2.1 14) (τ.2.2.1 17) = some o' ∧ o.1 = o'.1 ∧ R0 (ux_cut σ o) (un_cut τ o')
  rw [n19, f_X11_cut, lk0]
  exact ⟨_, _, rfl, rfl, rfl, hT, ⟨rfl, (if_neg (show ¬ (1 : Int32) = 4 by decide)).symm⟩, n19, n29, n33, n34, n35, n3, n12⟩
theorem s0_differs {σ τ : k_SB} (hR : R0 σ τ) (p1 : Int32) (p2 : Int32) : ∃ o o', fx_differs p1 p2 σ = some o ∧ fn_differs p1 p2 τ = some o' ∧ o.1 = o'.1 ∧ R0 (ux_differs σ o) (un_differs τ o') := by
  obtain ⟨hT, hW, n19, n29, n33, n34, n35, n3, n12⟩ := hR
  show ∃ o o', f_X11_differs p1 p2 (σ.1 0) (σ.1 19) (σ.2.2.1 17) (σ.2.2.1 18) = some o ∧ f_X13_differs_0 p1 p2 (τ.1 0) (τ.1 1) (τ.1 2) (τ.2.2.1 10) (τ.2.2.1 17) = some o' ∧ o.1 = o'.1 ∧ R0 (ux_differs σ o) (un_differs τ o')
  rw [n19, f_X11_differs, lk0]
  exact ⟨_, _, rfl, rfl, rfl, hT, ⟨rfl, (if_neg (show ¬ (1 : Int32) = 4 by decide)).symm⟩, n19, n29, n33, n34, n35, n3, n12⟩
theorem s0_energy {σ τ : k_SB} (hR : R0 σ τ) (p1 : Int32) : ∃ o o', fx_energy p1 σ = some o ∧ fn_energy p1 τ = some o' ∧ o.1 = o'.1 ∧ R0 (ux_energy σ o) (un_energy τ o') := by
  obtain ⟨hT, hW, n19, n29, n33, n34, n35, n3, n12⟩ := hR
  show ∃ o o', f_X11_energy p1 (σ.1 0) (σ.1 19) (σ.1 30) (σ.1 31) (σ.1 32) (σ.2.2.1 17) (σ.2.2.1 18) = some o ∧ f_X13_energy_0 p1 (τ.1 0) (τ.1 1) (τ.1 2) (τ.2.2.1 17) = some o' ∧ o.1 = o'.1 ∧ R0 (ux_energy σ o) (un_energy τ o')
  rw [n19, f_X11_energy, lk0]
  exact ⟨_, _, rfl, rfl, rfl, hT, ⟨rfl, (if_neg (show ¬ (1 : Int32) = 4 by decide)).symm⟩, n19, n29, n33, n34, n35, n3, n12⟩
theorem s0_faultEnergy {σ τ : k_SB} (hR : R0 σ τ) (p1 : Int32) (p2 : Int32) : ∃ o o', fx_faultEnergy p1 p2 σ = some o ∧ fn_faultEnergy p1 p2 τ = some o' ∧ o.1 = o'.1 ∧ R0 (ux_faultEnergy σ o) (un_faultEnergy τ o') := by
  obtain ⟨hT, hW, n19, n29, n33, n34, n35, n3, n12⟩ := hR
  show ∃ o o', f_X11_faultEnergy p1 p2 (σ.1 0) (σ.1 19) (σ.1 30) (σ.1 31) (σ.1 32) (σ.2.2.1 17) (σ.2.2.1 18) = some o ∧ f_X13_faultEnergy_0 p1 p2 (τ.1 0) (τ.1 1) (τ.1 2) (τ.2.2.1 17) = some o' ∧ o.1 = o'.1 ∧ R0 (ux_faultEnergy σ o) (un_faultEnergy τ o')
  rw [n19, f_X11_faultEnergy, lk0]
  exact ⟨_, _, rfl, rfl, rfl, hT, ⟨rfl, (if_neg (show ¬ (1 : Int32) = 4 by decide)).symm⟩, n19, n29, n33, n34, n35, n3, n12⟩
theorem s0_firstLine {σ τ : k_SB} (hR : R0 σ τ) (p1 : Int32) : ∃ o o', fx_firstLine p1 σ = some o ∧ fn_firstLine p1 τ = some o' ∧ o.1 = o'.1 ∧ R0 (ux_firstLine σ o) (un_firstLine τ o') := by
  obtain ⟨hT, hW, n19, n29, n33, n34, n35, n3, n12⟩ := hR
  show ∃ o o', f_X11_firstLine p1 (σ.1 0) (σ.1 19) (σ.2.2.1 15) (σ.2.2.1 16) (σ.2.2.1 17) (σ.2.2.1 18) = some o ∧ f_X13_firstLine_0 p1 (τ.1 0) (τ.1 1) (τ.1 2) (τ.2.2.1 9) (τ.2.2.1 10) (τ.2.2.1 13) (τ.2.2.1 17) = some o' ∧ o.1 = o'.1 ∧ R0 (ux_firstLine σ o) (un_firstLine τ o')
  rw [n19, f_X11_firstLine, lk0]
  exact ⟨_, _, rfl, rfl, rfl, hT, ⟨rfl, (if_neg (show ¬ (1 : Int32) = 4 by decide)).symm⟩, n19, n29, n33, n34, n35, n3, n12⟩
theorem s0_fitAt {σ τ : k_SB} (hR : R0 σ τ) (p1 : Int32) : ∃ o o', fx_fitAt p1 σ = some o ∧ fn_fitAt p1 τ = some o' ∧ o.1 = o'.1 ∧ R0 (ux_fitAt σ o) (un_fitAt τ o') := by
  obtain ⟨hT, hW, n19, n29, n33, n34, n35, n3, n12⟩ := hR
  show ∃ o o', f_X11_fitAt p1 (σ.1 0) (σ.1 35) (σ.1 29) (σ.1 34) (σ.2.2.1 20) (σ.2.2.1 21) (σ.2.2.1 22) (σ.2.2.1 23) (σ.2.2.1 24) (σ.2.2.1 25) (σ.2.2.1 26) = some o ∧ f_X13_fitAt_0 p1 (τ.1 0) (τ.1 1) (τ.1 2) = some o' ∧ o.1 = o'.1 ∧ R0 (ux_fitAt σ o) (un_fitAt τ o')
  rw [n29, f_X11_fitAt]
  exact ⟨_, _, rfl, rfl, rfl, hT, ⟨rfl, (if_neg (show ¬ (1 : Int32) = 4 by decide)).symm⟩, n19, n29, n33, n34, n35, n3, n12⟩
theorem s0_fits {σ τ : k_SB} (hR : R0 σ τ)  : ∃ o o', fx_fits  σ = some o ∧ fn_fits  τ = some o' ∧ o.1 = o'.1 ∧ R0 (ux_fits σ o) (un_fits τ o') := by
  obtain ⟨hT, hW, n19, n29, n33, n34, n35, n3, n12⟩ := hR
  show ∃ o o', f_X11_fits (σ.1 0) (σ.1 35) (σ.1 29) (σ.1 34) (σ.2.2.1 20) (σ.2.2.1 21) (σ.2.2.1 22) (σ.2.2.1 23) (σ.2.2.1 24) (σ.2.2.1 25) (σ.2.2.1 26) = some o ∧ f_X13_fits_0 (τ.1 0) (τ.1 1) (τ.1 2) = some o' ∧ o.1 = o'.1 ∧ R0 (ux_fits σ o) (un_fits τ o')
  rw [n29, f_X11_fits]
  exact ⟨_, _, rfl, rfl, rfl, hT, ⟨rfl, (if_neg (show ¬ (1 : Int32) = 4 by decide)).symm⟩, n19, n29, n33, n34, n35, n3, n12⟩
theorem s0_groundBest {σ τ : k_SB} (hR : R0 σ τ)  : ∃ o o', fx_groundBest  σ = some o ∧ fn_groundBest  τ = some o' ∧ o.1 = o'.1 ∧ R0 (ux_groundBest σ o) (un_groundBest τ o') := by
  obtain ⟨hT, hW, n19, n29, n33, n34, n35, n3, n12⟩ := hR
  show ∃ o o', f_X11_groundBest (σ.1 0) (σ.1 14) (σ.1 13) (σ.1 29) (σ.1 30) (σ.1 31) (σ.1 32) (σ.2.2.1 12) = some o ∧ f_X13_groundBest_0 (τ.1 0) (τ.1 1) (τ.1 2) = some o' ∧ o.1 = o'.1 ∧ R0 (ux_groundBest σ o) (un_groundBest τ o')
  rw [n29, f_X11_groundBest]
  exact ⟨_, _, rfl, rfl, rfl, hT, ⟨rfl, (if_neg (show ¬ (1 : Int32) = 4 by decide)).symm⟩, n19, n29, n33, n34, n35, n3, n12⟩
theorem s0_grow {σ τ : k_SB} (hR : R0 σ τ) (p1 : Int32) (p2 : Int32) : ∃ o o', fx_grow p1 p2 σ = some o ∧ fn_grow p1 p2 τ = some o' ∧ o.1 = o'.1 ∧ R0 (ux_grow σ o) (un_grow τ o') := by
  obtain ⟨hT, hW, n19, n29, n33, n34, n35, n3, n12⟩ := hR
  show ∃ o o', f_X11_grow p1 p2 (σ.1 0) (σ.1 3) (σ.1 19) (σ.2.2.1 0) (σ.2.2.1 1) (σ.2.2.1 2) (σ.2.2.1 17) (σ.2.2.1 18) = some o ∧ f_X13_grow_0 p1 p2 (τ.1 14) (τ.1 0) (τ.1 1) (τ.1 2) (τ.2.2.1 14) (τ.2.2.1 17) = some o' ∧ o.1 = o'.1 ∧ R0 (ux_grow σ o) (un_grow τ o')
  rw [n19, f_X11_grow, lk0]
  exact ⟨_, _, rfl, rfl, rfl, hT, ⟨rfl, (if_neg (show ¬ (1 : Int32) = 4 by decide)).symm⟩, n19, n29, n33, n34, n35, n3, n12⟩
theorem s0_grown {σ τ : k_SB} (hR : R0 σ τ) (p1 : Int32) (p2 : Int32) : ∃ o o', fx_grown p1 p2 σ = some o ∧ fn_grown p1 p2 τ = some o' ∧ o.1 = o'.1 ∧ R0 (ux_grown σ o) (un_grown τ o') := by
  obtain ⟨hT, hW, n19, n29, n33, n34, n35, n3, n12⟩ := hR
  show ∃ o o', f_X11_grown p1 p2 (σ.1 0) (σ.1 29) (σ.1 33) = some o ∧ f_X13_grown_0 p1 p2 (τ.1 23) (τ.1 0) (τ.1 1) (τ.1 2) = some o' ∧ o.1 = o'.1 ∧ R0 (ux_grown σ o) (un_grown τ o')
  rw [n29, f_X11_grown]
  exact ⟨_, _, rfl, rfl, rfl, hT, ⟨rfl, (if_neg (show ¬ (1 : Int32) = 4 by decide)).symm⟩, n19, n29, n33, n34, n35, n3, n12⟩
theorem s0_hex {σ τ : k_SB} (hR : R0 σ τ) (p1 : Int32) (p2 : Int32) : ∃ o o', fx_hex p1 p2 σ = some o ∧ fn_hex p1 p2 τ = some o' ∧ o.1 = o'.1 ∧ R0 (ux_hex σ o) (un_hex τ o') := by
  obtain ⟨hT, hW, n19, n29, n33, n34, n35, n3, n12⟩ := hR
  show ∃ o o', f_X11_hex p1 p2 (σ.1 0) (σ.1 19) (σ.2.2.1 17) (σ.2.2.1 18) = some o ∧ f_X13_hex_0 p1 p2 (τ.1 0) (τ.1 1) (τ.1 2) (τ.2.2.1 17) = some o' ∧ o.1 = o'.1 ∧ R0 (ux_hex σ o) (un_hex τ o')
  rw [n19, f_X11_hex, lk0]
  exact ⟨_, _, rfl, rfl, rfl, hT, ⟨rfl, (if_neg (show ¬ (1 : Int32) = 4 by decide)).symm⟩, n19, n29, n33, n34, n35, n3, n12⟩
theorem s0_image {σ τ : k_SB} (hR : R0 σ τ)  : ∃ o o', fx_image  σ = some o ∧ fn_image  τ = some o' ∧ o.1 = o'.1 ∧ R0 (ux_image σ o) (un_image τ o') := by
  obtain ⟨hT, hW, n19, n29, n33, n34, n35, n3, n12⟩ := hR
  show ∃ o o', f_X11_image (σ.1 0) (σ.1 12) (σ.1 29) (σ.2.2.1 10) (σ.2.2.1 11) (σ.2.2.1 17) (σ.2.2.1 18) = some o ∧ f_X13_image_0 (τ.1 0) (τ.1 1) (τ.1 2) = some o' ∧ o.1 = o'.1 ∧ R0 (ux_image σ o) (un_image τ o')
  rw [n29, f_X11_image]
  exact ⟨_, _, rfl, rfl, rfl, hT, ⟨rfl, (if_neg (show ¬ (1 : Int32) = 4 by decide)).symm⟩, n19, n29, n33, n34, n35, n3, n12⟩
theorem s0_judge {σ τ : k_SB} (hR : R0 σ τ)  : ∃ o o', fx_judge  σ = some o ∧ fn_judge  τ = some o' ∧ o.1 = o'.1 ∧ R0 (ux_judge σ o) (un_judge τ o') := by
  obtain ⟨hT, hW, n19, n29, n33, n34, n35, n3, n12⟩ := hR
  show ∃ o o', f_X11_judge (σ.1 0) (σ.1 35) (σ.1 29) (σ.1 34) (σ.2.2.1 20) (σ.2.2.1 21) (σ.2.2.1 22) (σ.2.2.1 23) (σ.2.2.1 24) (σ.2.2.1 25) (σ.2.2.1 26) = some o ∧ f_X13_judge_0 (τ.1 0) (τ.1 1) (τ.1 2) = some o' ∧ o.1 = o'.1 ∧ R0 (ux_judge σ o) (un_judge τ o')
  rw [n29, f_X11_judge]
  exact ⟨_, _, rfl, rfl, rfl, hT, ⟨rfl, (if_neg (show ¬ (1 : Int32) = 4 by decide)).symm⟩, n19, n29, n33, n34, n35, n3, n12⟩
theorem s0_kinds {σ τ : k_SB} (hR : R0 σ τ) (p1 : Int32) (p2 : Int32) (p3 : Int32) : ∃ o o', fx_kinds p1 p2 p3 σ = some o ∧ fn_kinds p1 p2 p3 τ = some o' ∧ o.1 = o'.1 ∧ R0 (ux_kinds σ o) (un_kinds τ o') := by
  obtain ⟨hT, hW, n19, n29, n33, n34, n35, n3, n12⟩ := hR
  show ∃ o o', f_X11_kinds p1 p2 p3 (σ.1 0) (σ.1 29) = some o ∧ f_X13_kinds_0 p1 p2 p3 (τ.1 0) (τ.1 1) (τ.1 2) = some o' ∧ o.1 = o'.1 ∧ R0 (ux_kinds σ o) (un_kinds τ o')
  rw [n29, f_X11_kinds]
  exact ⟨_, _, rfl, rfl, rfl, hT, ⟨rfl, (if_neg (show ¬ (1 : Int32) = 4 by decide)).symm⟩, n19, n29, n33, n34, n35, n3, n12⟩
theorem s0_layer {σ τ : k_SB} (hR : R0 σ τ) (p1 : Int32) (p2 : Int32) : ∃ o o', fx_layer p1 p2 σ = some o ∧ fn_layer p1 p2 τ = some o' ∧ o.1 = o'.1 ∧ R0 (ux_layer σ o) (un_layer τ o') := by
  obtain ⟨hT, hW, n19, n29, n33, n34, n35, n3, n12⟩ := hR
  show ∃ o o', f_X11_layer p1 p2 (σ.1 0) (σ.1 19) (σ.2.2.1 17) (σ.2.2.1 18) = some o ∧ f_X13_layer_0 p1 p2 (τ.1 0) (τ.1 1) (τ.1 2) (τ.2.2.1 10) (τ.2.2.1 17) = some o' ∧ o.1 = o'.1 ∧ R0 (ux_layer σ o) (un_layer τ o')
  rw [n19, f_X11_layer, lk0]
  exact ⟨_, _, rfl, rfl, rfl, hT, ⟨rfl, (if_neg (show ¬ (1 : Int32) = 4 by decide)).symm⟩, n19, n29, n33, n34, n35, n3, n12⟩
theorem s0_least {σ τ : k_SB} (hR : R0 σ τ) (p1 : Int32) (p2 : Int32) : ∃ o o', fx_least p1 p2 σ = some o ∧ fn_least p1 p2 τ = some o' ∧ o.1 = o'.1 ∧ R0 (ux_least σ o) (un_least τ o') := by
  obtain ⟨hT, hW, n19, n29, n33, n34, n35, n3, n12⟩ := hR
  show ∃ o o', f_X11_least p1 p2 (σ.1 0) (σ.1 19) (σ.2.2.1 17) (σ.2.2.1 18) = some o ∧ f_X13_least_0 p1 p2 (τ.1 0) (τ.1 1) (τ.1 2) (τ.2.2.1 17) = some o' ∧ o.1 = o'.1 ∧ R0 (ux_least σ o) (un_least τ o')
  rw [n19, f_X11_least, lk0]
  exact ⟨_, _, rfl, rfl, rfl, hT, ⟨rfl, (if_neg (show ¬ (1 : Int32) = 4 by decide)).symm⟩, n19, n29, n33, n34, n35, n3, n12⟩
theorem s0_longestRun {σ τ : k_SB} (hR : R0 σ τ) (p1 : Int32) (p2 : Int32) : ∃ o o', fx_longestRun p1 p2 σ = some o ∧ fn_longestRun p1 p2 τ = some o' ∧ o.1 = o'.1 ∧ R0 (ux_longestRun σ o) (un_longestRun τ o') := by
  obtain ⟨hT, hW, n19, n29, n33, n34, n35, n3, n12⟩ := hR
  show ∃ o o', f_X11_longestRun p1 p2 (σ.1 0) (σ.1 29) (σ.1 33) = some o ∧ f_X13_longestRun_0 p1 p2 (τ.1 23) (τ.1 0) (τ.1 1) (τ.1 2) = some o' ∧ o.1 = o'.1 ∧ R0 (ux_longestRun σ o) (un_longestRun τ o')
  rw [n29, f_X11_longestRun]
  exact ⟨_, _, rfl, rfl, rfl, hT, ⟨rfl, (if_neg (show ¬ (1 : Int32) = 4 by decide)).symm⟩, n19, n29, n33, n34, n35, n3, n12⟩
theorem s0_manyAlike {σ τ : k_SB} (hR : R0 σ τ) (p1 : Int32) (p2 : Int32) : ∃ o o', fx_manyAlike p1 p2 σ = some o ∧ fn_manyAlike p1 p2 τ = some o' ∧ o.1 = o'.1 ∧ R0 (ux_manyAlike σ o) (un_manyAlike τ o') := by
  obtain ⟨hT, hW, n19, n29, n33, n34, n35, n3, n12⟩ := hR
  show ∃ o o', f_X11_manyAlike p1 p2 (σ.1 0) (σ.1 19) (σ.2.2.1 17) (σ.2.2.1 18) = some o ∧ f_X13_manyAlike_0 p1 p2 (τ.1 0) (τ.1 1) (τ.1 2) (τ.2.2.1 17) = some o' ∧ o.1 = o'.1 ∧ R0 (ux_manyAlike σ o) (un_manyAlike τ o')
  rw [n19, f_X11_manyAlike, lk0]
  exact ⟨_, _, rfl, rfl, rfl, hT, ⟨rfl, (if_neg (show ¬ (1 : Int32) = 4 by decide)).symm⟩, n19, n29, n33, n34, n35, n3, n12⟩
theorem s0_meanSum {σ τ : k_SB} (hR : R0 σ τ) (p1 : Int32) (p2 : Int32) : ∃ o o', fx_meanSum p1 p2 σ = some o ∧ fn_meanSum p1 p2 τ = some o' ∧ o.1 = o'.1 ∧ R0 (ux_meanSum σ o) (un_meanSum τ o') := by
  obtain ⟨hT, hW, n19, n29, n33, n34, n35, n3, n12⟩ := hR
  show ∃ o o', f_X11_meanSum p1 p2 (σ.1 0) (σ.1 29) (σ.1 33) = some o ∧ f_X13_meanSum_0 p1 p2 (τ.1 0) (τ.1 1) (τ.1 2) = some o' ∧ o.1 = o'.1 ∧ R0 (ux_meanSum σ o) (un_meanSum τ o')
  rw [n29, f_X11_meanSum]
  exact ⟨_, _, rfl, rfl, rfl, hT, ⟨rfl, (if_neg (show ¬ (1 : Int32) = 4 by decide)).symm⟩, n19, n29, n33, n34, n35, n3, n12⟩
theorem s0_odds {σ τ : k_SB} (hR : R0 σ τ) (p1 : Int32) (p2 : Int32) (p3 : Int32) : ∃ o o', fx_odds p1 p2 p3 σ = some o ∧ fn_odds p1 p2 p3 τ = some o' ∧ o.1 = o'.1 ∧ R0 (ux_odds σ o) (un_odds τ o') := by
  obtain ⟨hT, hW, n19, n29, n33, n34, n35, n3, n12⟩ := hR
  show ∃ o o', f_X11_odds p1 p2 p3 (σ.1 0) (σ.1 29) (σ.1 33) = some o ∧ f_X13_odds_0 p1 p2 p3 (τ.1 0) (τ.1 1) (τ.1 2) = some o' ∧ o.1 = o'.1 ∧ R0 (ux_odds σ o) (un_odds τ o')
  rw [n29, f_X11_odds]
  exact ⟨_, _, rfl, rfl, rfl, hT, ⟨rfl, (if_neg (show ¬ (1 : Int32) = 4 by decide)).symm⟩, n19, n29, n33, n34, n35, n3, n12⟩
theorem s0_out {σ τ : k_SB} (hR : R0 σ τ) (p1 : Int32) (p2 : Int32) : ∃ o o', fx_out p1 p2 σ = some o ∧ fn_out p1 p2 τ = some o' ∧ o.1 = o'.1 ∧ R0 (ux_out σ o) (un_out τ o') := by
  obtain ⟨hT, hW, n19, n29, n33, n34, n35, n3, n12⟩ := hR
  show ∃ o o', f_X11_out p1 p2 (σ.1 0) (σ.1 19) (σ.2.2.1 15) (σ.2.2.1 16) (σ.2.2.1 17) (σ.2.2.1 18) = some o ∧ f_X13_out_0 p1 p2 (τ.1 0) (τ.1 1) (τ.1 2) (τ.2.2.1 9) (τ.2.2.1 10) (τ.2.2.1 13) (τ.2.2.1 17) = some o' ∧ o.1 = o'.1 ∧ R0 (ux_out σ o) (un_out τ o')
  rw [n19, f_X11_out, lk0]
  exact ⟨_, _, rfl, rfl, rfl, hT, ⟨rfl, (if_neg (show ¬ (1 : Int32) = 4 by decide)).symm⟩, n19, n29, n33, n34, n35, n3, n12⟩
theorem s0_outs {σ τ : k_SB} (hR : R0 σ τ) (p1 : Int32) : ∃ o o', fx_outs p1 σ = some o ∧ fn_outs p1 τ = some o' ∧ o.1 = o'.1 ∧ R0 (ux_outs σ o) (un_outs τ o') := by
  obtain ⟨hT, hW, n19, n29, n33, n34, n35, n3, n12⟩ := hR
  show ∃ o o', f_X11_outs p1 (σ.1 0) (σ.1 19) (σ.2.2.1 15) (σ.2.2.1 16) (σ.2.2.1 17) (σ.2.2.1 18) = some o ∧ f_X13_outs_0 p1 (τ.1 0) (τ.1 1) (τ.1 2) (τ.2.2.1 9) (τ.2.2.1 10) (τ.2.2.1 13) (τ.2.2.1 17) = some o' ∧ o.1 = o'.1 ∧ R0 (ux_outs σ o) (un_outs τ o')
  rw [n19, f_X11_outs, lk0]
  exact ⟨_, _, rfl, rfl, rfl, hT, ⟨rfl, (if_neg (show ¬ (1 : Int32) = 4 by decide)).symm⟩, n19, n29, n33, n34, n35, n3, n12⟩
theorem s0_pass {σ τ : k_SB} (hR : R0 σ τ) (p1 : Int32) (p2 : Int32) : ∃ o o', fx_pass p1 p2 σ = some o ∧ fn_pass p1 p2 τ = some o' ∧ o.1 = o'.1 ∧ R0 (ux_pass σ o) (un_pass τ o') := by
  obtain ⟨hT, hW, n19, n29, n33, n34, n35, n3, n12⟩ := hR
  show ∃ o o', f_X11_pass p1 p2 (σ.1 0) (σ.1 16) (σ.1 15) (σ.1 14) (σ.1 13) (σ.1 19) (σ.1 30) (σ.1 31) (σ.1 32) (σ.2.2.1 12) (σ.2.2.1 13) (σ.2.2.1 14) (σ.2.2.1 17) (σ.2.2.1 18) = some o ∧ f_X13_pass_0 p1 p2 (τ.1 0) (τ.1 1) (τ.1 2) (τ.2.2.1 0) (τ.2.2.1 11) (τ.2.2.1 15) (τ.2.2.1 17) = some o' ∧ o.1 = o'.1 ∧ R0 (ux_pass σ o) (un_pass τ o')
  rw [n19, f_X11_pass, lk0]
  exact ⟨_, _, rfl, rfl, rfl, hT, ⟨rfl, (if_neg (show ¬ (1 : Int32) = 4 by decide)).symm⟩, n19, n29, n33, n34, n35, n3, n12⟩
theorem s0_relax {σ τ : k_SB} (hR : R0 σ τ) (p1 : Int32) : ∃ o o', fx_relax p1 σ = some o ∧ fn_relax p1 τ = some o' ∧ o.1 = o'.1 ∧ R0 (ux_relax σ o) (un_relax τ o') := by
  obtain ⟨hT, hW, n19, n29, n33, n34, n35, n3, n12⟩ := hR
  show ∃ o o', f_X11_relax p1 (σ.1 0) (σ.1 17) (σ.1 18) (σ.1 19) (σ.1 30) (σ.1 31) (σ.1 32) (σ.2.2.1 17) (σ.2.2.1 18) = some o ∧ f_X13_relax_0 p1 (τ.1 18) (τ.1 0) (τ.1 1) (τ.1 2) (τ.2.2.1 17) = some o' ∧ o.1 = o'.1 ∧ R0 (ux_relax σ o) (un_relax τ o')
  rw [n19, f_X11_relax, lk0]
  exact ⟨_, _, rfl, rfl, rfl, hT, ⟨rfl, (if_neg (show ¬ (1 : Int32) = 4 by decide)).symm⟩, n19, n29, n33, n34, n35, n3, n12⟩
theorem s0_relaxed {σ τ : k_SB} (hR : R0 σ τ) (p1 : Int32) : ∃ o o', fx_relaxed p1 σ = some o ∧ fn_relaxed p1 τ = some o' ∧ o.1 = o'.1 ∧ R0 (ux_relaxed σ o) (un_relaxed τ o') := by
  obtain ⟨hT, hW, n19, n29, n33, n34, n35, n3, n12⟩ := hR
  show ∃ o o', f_X11_relaxed p1 (σ.1 0) (σ.1 17) (σ.1 18) (σ.1 19) (σ.1 30) (σ.1 31) (σ.1 32) (σ.2.2.1 17) (σ.2.2.1 18) = some o ∧ f_X13_relaxed_0 p1 (τ.1 18) (τ.1 0) (τ.1 1) (τ.1 2) (τ.2.2.1 17) = some o' ∧ o.1 = o'.1 ∧ R0 (ux_relaxed σ o) (un_relaxed τ o')
  rw [n19, f_X11_relaxed, lk0]
  exact ⟨_, _, rfl, rfl, rfl, hT, ⟨rfl, (if_neg (show ¬ (1 : Int32) = 4 by decide)).symm⟩, n19, n29, n33, n34, n35, n3, n12⟩
theorem s0_rowOdds {σ τ : k_SB} (hR : R0 σ τ) (p1 : Int32) (p2 : Int32) : ∃ o o', fx_rowOdds p1 p2 σ = some o ∧ fn_rowOdds p1 p2 τ = some o' ∧ o.1 = o'.1 ∧ R0 (ux_rowOdds σ o) (un_rowOdds τ o') := by
  obtain ⟨hT, hW, n19, n29, n33, n34, n35, n3, n12⟩ := hR
  show ∃ o o', f_X11_rowOdds p1 p2 (σ.1 0) (σ.1 19) (σ.1 33) (σ.2.2.1 17) (σ.2.2.1 18) = some o ∧ f_X13_rowOdds_0 p1 p2 (τ.1 0) (τ.1 1) (τ.1 2) (τ.2.2.1 17) = some o' ∧ o.1 = o'.1 ∧ R0 (ux_rowOdds σ o) (un_rowOdds τ o')
  rw [n19, f_X11_rowOdds, lk0]
  exact ⟨_, _, rfl, rfl, rfl, hT, ⟨rfl, (if_neg (show ¬ (1 : Int32) = 4 by decide)).symm⟩, n19, n29, n33, n34, n35, n3, n12⟩
theorem s0_run {σ τ : k_SB} (hR : R0 σ τ) (p1 : Int32) (p2 : Int32) : ∃ o o', fx_run p1 p2 σ = some o ∧ fn_run p1 p2 τ = some o' ∧ o.1 = o'.1 ∧ R0 (ux_run σ o) (un_run τ o') := by
  obtain ⟨hT, hW, n19, n29, n33, n34, n35, n3, n12⟩ := hR
  show ∃ o o', f_X11_run p1 p2 (σ.1 0) (σ.1 19) (σ.2.2.1 17) (σ.2.2.1 18) = some o ∧ f_X13_run_0 p1 p2 (τ.1 0) (τ.1 1) (τ.1 2) (τ.2.2.1 17) = some o' ∧ o.1 = o'.1 ∧ R0 (ux_run σ o) (un_run τ o')
  rw [n19, f_X11_run, lk0]
  exact ⟨_, _, rfl, rfl, rfl, hT, ⟨rfl, (if_neg (show ¬ (1 : Int32) = 4 by decide)).symm⟩, n19, n29, n33, n34, n35, n3, n12⟩
theorem s0_sameLines {σ τ : k_SB} (hR : R0 σ τ) (p1 : Int32) (p2 : Int32) : ∃ o o', fx_sameLines p1 p2 σ = some o ∧ fn_sameLines p1 p2 τ = some o' ∧ o.1 = o'.1 ∧ R0 (ux_sameLines σ o) (un_sameLines τ o') := by
  obtain ⟨hT, hW, n19, n29, n33, n34, n35, n3, n12⟩ := hR
  show ∃ o o', f_X11_sameLines p1 p2 (σ.1 0) (σ.1 19) (σ.2.2.1 15) (σ.2.2.1 16) (σ.2.2.1 17) (σ.2.2.1 18) = some o ∧ f_X13_sameLines_0 p1 p2 (τ.1 0) (τ.1 1) (τ.1 2) (τ.2.2.1 9) (τ.2.2.1 10) (τ.2.2.1 13) (τ.2.2.1 17) = some o' ∧ o.1 = o'.1 ∧ R0 (ux_sameLines σ o) (un_sameLines τ o')
  rw [n19, f_X11_sameLines, lk0]
  exact ⟨_, _, rfl, rfl, rfl, hT, ⟨rfl, (if_neg (show ¬ (1 : Int32) = 4 by decide)).symm⟩, n19, n29, n33, n34, n35, n3, n12⟩
theorem s0_share {σ τ : k_SB} (hR : R0 σ τ) (p1 : Int32) (p2 : Int32) : ∃ o o', fx_share p1 p2 σ = some o ∧ fn_share p1 p2 τ = some o' ∧ o.1 = o'.1 ∧ R0 (ux_share σ o) (un_share τ o') := by
  obtain ⟨hT, hW, n19, n29, n33, n34, n35, n3, n12⟩ := hR
  show ∃ o o', f_X11_share p1 p2 (σ.1 0) (σ.1 19) (σ.2.2.1 17) (σ.2.2.1 18) = some o ∧ f_X13_share_0 p1 p2 (τ.1 0) (τ.1 1) (τ.1 2) (τ.2.2.1 17) = some o' ∧ o.1 = o'.1 ∧ R0 (ux_share σ o) (un_share τ o')
  rw [n19, f_X11_share, lk0]
  exact ⟨_, _, rfl, rfl, rfl, hT, ⟨rfl, (if_neg (show ¬ (1 : Int32) = 4 by decide)).symm⟩, n19, n29, n33, n34, n35, n3, n12⟩
theorem s0_slip {σ τ : k_SB} (hR : R0 σ τ) (p1 : Int32) (p2 : Int32) : ∃ o o', fx_slip p1 p2 σ = some o ∧ fn_slip p1 p2 τ = some o' ∧ o.1 = o'.1 ∧ R0 (ux_slip σ o) (un_slip τ o') := by
  obtain ⟨hT, hW, n19, n29, n33, n34, n35, n3, n12⟩ := hR
  show ∃ o o', f_X11_slip p1 p2 (σ.1 0) (σ.1 3) (σ.1 19) (σ.2.2.1 0) (σ.2.2.1 1) (σ.2.2.1 2) (σ.2.2.1 17) (σ.2.2.1 18) = some o ∧ f_X13_slip_0 p1 p2 (τ.1 14) (τ.1 0) (τ.1 1) (τ.1 2) (τ.2.2.1 14) (τ.2.2.1 17) = some o' ∧ o.1 = o'.1 ∧ R0 (ux_slip σ o) (un_slip τ o')
  rw [n19, f_X11_slip, lk0]
  exact ⟨_, _, rfl, rfl, rfl, hT, ⟨rfl, (if_neg (show ¬ (1 : Int32) = 4 by decide)).symm⟩, n19, n29, n33, n34, n35, n3, n12⟩
theorem s0_slipEnergy {σ τ : k_SB} (hR : R0 σ τ) (p1 : Int32) (p2 : Int32) : ∃ o o', fx_slipEnergy p1 p2 σ = some o ∧ fn_slipEnergy p1 p2 τ = some o' ∧ o.1 = o'.1 ∧ R0 (ux_slipEnergy σ o) (un_slipEnergy τ o') := by
  obtain ⟨hT, hW, n19, n29, n33, n34, n35, n3, n12⟩ := hR
  show ∃ o o', f_X11_slipEnergy p1 p2 (σ.1 0) (σ.1 19) (σ.1 30) (σ.1 31) (σ.1 32) (σ.2.2.1 17) (σ.2.2.1 18) = some o ∧ f_X13_slipEnergy_0 p1 p2 (τ.1 0) (τ.1 1) (τ.1 2) (τ.2.2.1 17) = some o' ∧ o.1 = o'.1 ∧ R0 (ux_slipEnergy σ o) (un_slipEnergy τ o')
  rw [n19, f_X11_slipEnergy, lk0]
  exact ⟨_, _, rfl, rfl, rfl, hT, ⟨rfl, (if_neg (show ¬ (1 : Int32) = 4 by decide)).symm⟩, n19, n29, n33, n34, n35, n3, n12⟩
theorem s0_slips {σ τ : k_SB} (hR : R0 σ τ) (p1 : Int32) (p2 : Int32) (p3 : Int32) : ∃ o o', fx_slips p1 p2 p3 σ = some o ∧ fn_slips p1 p2 p3 τ = some o' ∧ o.1 = o'.1 ∧ R0 (ux_slips σ o) (un_slips τ o') := by
  obtain ⟨hT, hW, n19, n29, n33, n34, n35, n3, n12⟩ := hR
  show ∃ o o', f_X11_slips p1 p2 p3 (σ.1 0) (σ.1 19) (σ.2.2.1 17) (σ.2.2.1 18) = some o ∧ f_X13_slips_0 p1 p2 p3 (τ.1 0) (τ.1 1) (τ.1 2) (τ.2.2.1 17) = some o' ∧ o.1 = o'.1 ∧ R0 (ux_slips σ o) (un_slips τ o')
  rw [n19, f_X11_slips, lk0]
  exact ⟨_, _, rfl, rfl, rfl, hT, ⟨rfl, (if_neg (show ¬ (1 : Int32) = 4 by decide)).symm⟩, n19, n29, n33, n34, n35, n3, n12⟩
theorem s0_stack {σ τ : k_SB} (hR : R0 σ τ) (p1 : Int32) (p2 : Int32) : ∃ o o', fx_stack p1 p2 σ = some o ∧ fn_stack p1 p2 τ = some o' ∧ o.1 = o'.1 ∧ R0 (ux_stack σ o) (un_stack τ o') := by
  obtain ⟨hT, hW, n19, n29, n33, n34, n35, n3, n12⟩ := hR
  show ∃ o o', f_X11_stack p1 p2 (σ.1 0) (σ.1 19) (σ.2.2.1 17) (σ.2.2.1 18) = some o ∧ f_X13_stack_0 p1 p2 (τ.1 0) (τ.1 1) (τ.1 2) (τ.2.2.1 17) = some o' ∧ o.1 = o'.1 ∧ R0 (ux_stack σ o) (un_stack τ o')
  rw [n19, f_X11_stack, lk0]
  exact ⟨_, _, rfl, rfl, rfl, hT, ⟨rfl, (if_neg (show ¬ (1 : Int32) = 4 by decide)).symm⟩, n19, n29, n33, n34, n35, n3, n12⟩
theorem s0_sum {σ τ : k_SB} (hR : R0 σ τ) (p1 : Int32) : ∃ o o', fx_sum p1 σ = some o ∧ fn_sum p1 τ = some o' ∧ o.1 = o'.1 ∧ R0 (ux_sum σ o) (un_sum τ o') := by
  obtain ⟨hT, hW, n19, n29, n33, n34, n35, n3, n12⟩ := hR
  show ∃ o o', f_X11_sum p1 (σ.1 0) (σ.1 19) (σ.2.2.1 17) (σ.2.2.1 18) = some o ∧ f_X13_sum_0 p1 (τ.1 0) (τ.1 1) (τ.1 2) (τ.2.2.1 17) = some o' ∧ o.1 = o'.1 ∧ R0 (ux_sum σ o) (un_sum τ o')
  rw [n19, f_X11_sum, lk0]
  exact ⟨_, _, rfl, rfl, rfl, hT, ⟨rfl, (if_neg (show ¬ (1 : Int32) = 4 by decide)).symm⟩, n19, n29, n33, n34, n35, n3, n12⟩
theorem s0_surely {σ τ : k_SB} (hR : R0 σ τ)  : ∃ o o', fx_surely  σ = some o ∧ fn_surely  τ = some o' ∧ o.1 = o'.1 ∧ R0 (ux_surely σ o) (un_surely τ o') := by
  obtain ⟨hT, hW, n19, n29, n33, n34, n35, n3, n12⟩ := hR
  show ∃ o o', f_X11_surely (σ.1 0) (σ.1 35) (σ.1 29) (σ.1 34) (σ.2.2.1 20) (σ.2.2.1 21) (σ.2.2.1 22) (σ.2.2.1 23) (σ.2.2.1 24) (σ.2.2.1 25) (σ.2.2.1 26) = some o ∧ f_X13_surely_0 (τ.1 0) (τ.1 1) (τ.1 2) = some o' ∧ o.1 = o'.1 ∧ R0 (ux_surely σ o) (un_surely τ o')
  rw [n29, f_X11_surely]
  exact ⟨_, _, rfl, rfl, rfl, hT, ⟨rfl, (if_neg (show ¬ (1 : Int32) = 4 by decide)).symm⟩, n19, n29, n33, n34, n35, n3, n12⟩
theorem s0_turn {σ τ : k_SB} (hR : R0 σ τ) (p1 : Int32) : ∃ o o', fx_turn p1 σ = some o ∧ fn_turn p1 τ = some o' ∧ o.1 = o'.1 ∧ R0 (ux_turn σ o) (un_turn τ o') := by
  obtain ⟨hT, hW, n19, n29, n33, n34, n35, n3, n12⟩ := hR
  show ∃ o o', f_X11_turn p1 (σ.1 0) (σ.1 3) (σ.1 19) (σ.2.2.1 0) (σ.2.2.1 1) (σ.2.2.1 2) (σ.2.2.1 17) (σ.2.2.1 18) = some o ∧ f_X13_turn_0 p1 (τ.1 14) (τ.1 0) (τ.1 1) (τ.1 2) (τ.2.2.1 14) (τ.2.2.1 17) = some o' ∧ o.1 = o'.1 ∧ R0 (ux_turn σ o) (un_turn τ o')
  rw [n19, f_X11_turn, lk0]
  exact ⟨_, _, rfl, rfl, rfl, hT, ⟨rfl, (if_neg (show ¬ (1 : Int32) = 4 by decide)).symm⟩, n19, n29, n33, n34, n35, n3, n12⟩
theorem s0_twin {σ τ : k_SB} (hR : R0 σ τ) (p1 : Int32) : ∃ o o', fx_twin p1 σ = some o ∧ fn_twin p1 τ = some o' ∧ o.1 = o'.1 ∧ R0 (ux_twin σ o) (un_twin τ o') := by
  obtain ⟨hT, hW, n19, n29, n33, n34, n35, n3, n12⟩ := hR
  show ∃ o o', f_X11_twin p1 (σ.1 0) (σ.1 3) (σ.1 19) (σ.2.2.1 0) (σ.2.2.1 1) (σ.2.2.1 2) (σ.2.2.1 17) (σ.2.2.1 18) = some o ∧ f_X13_twin_0 p1 (τ.1 14) (τ.1 0) (τ.1 1) (τ.1 2) (τ.2.2.1 14) (τ.2.2.1 17) = some o' ∧ o.1 = o'.1 ∧ R0 (ux_twin σ o) (un_twin τ o')
  rw [n19, f_X11_twin, lk0]
  exact ⟨_, _, rfl, rfl, rfl, hT, ⟨rfl, (if_neg (show ¬ (1 : Int32) = 4 by decide)).symm⟩, n19, n29, n33, n34, n35, n3, n12⟩
theorem s0_valley {σ τ : k_SB} (hR : R0 σ τ) (p1 : Int32) : ∃ o o', fx_valley p1 σ = some o ∧ fn_valley p1 τ = some o' ∧ o.1 = o'.1 ∧ R0 (ux_valley σ o) (un_valley τ o') := by
  obtain ⟨hT, hW, n19, n29, n33, n34, n35, n3, n12⟩ := hR
  show ∃ o o', f_X11_valley p1 (σ.1 0) (σ.1 16) (σ.1 15) (σ.1 14) (σ.1 13) (σ.1 19) (σ.1 30) (σ.1 31) (σ.1 32) (σ.2.2.1 12) (σ.2.2.1 13) (σ.2.2.1 14) (σ.2.2.1 17) (σ.2.2.1 18) = some o ∧ f_X13_valley_0 p1 (τ.1 0) (τ.1 1) (τ.1 2) (τ.2.2.1 0) (τ.2.2.1 11) (τ.2.2.1 15) (τ.2.2.1 17) = some o' ∧ o.1 = o'.1 ∧ R0 (ux_valley σ o) (un_valley τ o')
  rw [n19, f_X11_valley, lk0]
  exact ⟨_, _, rfl, rfl, rfl, hT, ⟨rfl, (if_neg (show ¬ (1 : Int32) = 4 by decide)).symm⟩, n19, n29, n33, n34, n35, n3, n12⟩
theorem s0_weakest {σ τ : k_SB} (hR : R0 σ τ) (p1 : Int32) : ∃ o o', fx_weakest p1 σ = some o ∧ fn_weakest p1 τ = some o' ∧ o.1 = o'.1 ∧ R0 (ux_weakest σ o) (un_weakest τ o') := by
  obtain ⟨hT, hW, n19, n29, n33, n34, n35, n3, n12⟩ := hR
  show ∃ o o', f_X11_weakest p1 (σ.1 0) (σ.1 19) (σ.1 30) (σ.1 31) (σ.1 32) (σ.2.2.1 17) (σ.2.2.1 18) = some o ∧ f_X13_weakest_0 p1 (τ.1 0) (τ.1 1) (τ.1 2) (τ.2.2.1 17) = some o' ∧ o.1 = o'.1 ∧ R0 (ux_weakest σ o) (un_weakest τ o')
  rw [n19, f_X11_weakest, lk0]
  exact ⟨_, _, rfl, rfl, rfl, hT, ⟨rfl, (if_neg (show ¬ (1 : Int32) = 4 by decide)).symm⟩, n19, n29, n33, n34, n35, n3, n12⟩
