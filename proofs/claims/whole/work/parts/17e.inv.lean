/-! THE LAW: what holds of the two worlds between two calls; each call keeps it and both answer alike -/
def lw_Inv (G : k_G) (hX hM : Nat) (wX wM : va_W) : Prop := ∃ σ τ : k_SB, XW G hX σ wX ∧ ((MW0 G hM τ wM ∧ R0 σ τ) ∨ (MW1 G hM τ wM ∧ R1 σ τ))
def lw_rm (rm : Room) : Prop := rm.cells = 0 ∧ rm.slots = 0 ∧ rm.frames ≤ 13 ∧ rm.locals ≤ 480
theorem lw_x0 {G : k_G} {h : Nat} {σ : k_SB} {w : va_W} (hw : XW G h σ w) : ∃ fs : List Value, w[0]? = some (h, .inr (8, fs)) := by
  obtain ⟨a, rfl⟩ := hw
  exact ⟨_, rfl⟩
theorem lw_m00 {G : k_G} {h : Nat} {σ : k_SB} {w : va_W} (hw : MW0 G h σ w) : ∃ fs : List Value, w[0]? = some (h, .inr (10, fs)) := by
  obtain ⟨rv, a, rfl⟩ := hw
  exact ⟨_, rfl⟩
theorem lw_m01 {G : k_G} {h : Nat} {σ : k_SB} {w : va_W} (hw : MW1 G h σ w) : ∃ fs : List Value, w[0]? = some (h, .inr (10, fs)) := by
  obtain ⟨rv, a, rfl⟩ := hw
  exact ⟨_, rfl⟩
theorem lw_ix {G : k_G} {hX hM : Nat} {wX wM : va_W} (h : lw_Inv G hX hM wX wM) : ∃ fs : List Value, wX[0]? = some (hX, .inr (8, fs)) := by
  obtain ⟨σ, τ, hx, _⟩ := h
  exact lw_x0 hx
theorem lw_im {G : k_G} {hX hM : Nat} {wX wM : va_W} (h : lw_Inv G hX hM wX wM) : ∃ fs : List Value, wM[0]? = some (hM, .inr (10, fs)) := by
  obtain ⟨σ, τ, _, ⟨hm, _⟩ | ⟨hm, _⟩⟩ := h
  · exact lw_m00 hm
  · exact lw_m01 hm
theorem I_feed {l : Launch} {G : k_G} {hX hM : Nat} {wX wM : va_W} (hI : lw_Inv G hX hM wX wM) (p1 p2 p3 p4 p5 : Int32) : ∃ (r : Int32) (PX PM : va_W → Prop) (rm : Room), (∀ sz, k_Di l G yX11_feed wsX11_feed rm_X11_feed [.ref hX, .int p1, .int p2, .int p3, .int p4, .int p5] wX sz r PX 0 0) ∧ (∀ sz, k_Di l G yX13_feed wsX13_feed rm [.ref hM, .int p1, .int p2, .int p3, .int p4, .int p5] wM sz r PM 0 0) ∧ lw_rm rm ∧ ∀ u v, PX u → PM v → lw_Inv G hX hM u v := by
  obtain ⟨σ, τ, hx, ⟨hm, hR⟩ | ⟨hm, hR⟩⟩ := hI
  · obtain ⟨o, o', e1, e2, e3, hR'⟩ := s0_feed hR p1 p2 p3 p4 p5
    exact ⟨o.1, XW G hX (ux_feed σ o), MW0 G hM (un_feed τ o'), rm_X13_feed, fun sz => lx_feed hx e1 sz, fun sz => by rw [e3]; exact ln_feed hm e2 sz, ⟨rfl, rfl, by decide, by decide⟩, fun u v hu hv => ⟨_, _, hu, Or.inl ⟨hv, hR'⟩⟩⟩
  · obtain ⟨o, o', e1, e2, e3, hR'⟩ := s1_feed hR p1 p2 p3 p4 p5
    exact ⟨o.1, XW G hX (ux_feed σ o), MW1 G hM (um_feed τ o'), rm_X13_feed, fun sz => lx_feed hx e1 sz, fun sz => by rw [e3]; exact lm_feed hm e2 sz, ⟨rfl, rfl, by decide, by decide⟩, fun u v hu hv => ⟨_, _, hu, Or.inr ⟨hv, hR'⟩⟩⟩
theorem I_fault {l : Launch} {G : k_G} {hX hM : Nat} {wX wM : va_W} (hI : lw_Inv G hX hM wX wM) : ∃ (r : Int32) (PX PM : va_W → Prop) (rm : Room), (∀ sz, k_Di l G yX11_fault wsX11_fault rm_X11_fault [.ref hX] wX sz r PX 0 0) ∧ (∀ sz, k_Di l G yX13_fault wsX13_fault rm [.ref hM] wM sz r PM 0 0) ∧ lw_rm rm ∧ ∀ u v, PX u → PM v → lw_Inv G hX hM u v := by
  obtain ⟨σ, τ, hx, ⟨hm, hR⟩ | ⟨hm, hR⟩⟩ := hI
  · obtain ⟨o, o', e1, e2, e3, hR'⟩ := s0_fault hR 
    exact ⟨o, XW G hX (ux_fault σ o), MW0 G hM (un_fault τ o'), rm_X13_fault, fun sz => lx_fault hx e1 sz, fun sz => by rw [e3]; exact ln_fault hm e2 sz, ⟨rfl, rfl, by decide, by decide⟩, fun u v hu hv => ⟨_, _, hu, Or.inl ⟨hv, hR'⟩⟩⟩
  · obtain ⟨o, o', e1, e2, e3, hR'⟩ := s1_fault hR 
    exact ⟨o, XW G hX (ux_fault σ o), MW1 G hM (um_fault τ o'), rm_X13_fault, fun sz => lx_fault hx e1 sz, fun sz => by rw [e3]; exact lm_fault hm e2 sz, ⟨rfl, rfl, by decide, by decide⟩, fun u v hu hv => ⟨_, _, hu, Or.inr ⟨hv, hR'⟩⟩⟩
theorem I_where {l : Launch} {G : k_G} {hX hM : Nat} {wX wM : va_W} (hI : lw_Inv G hX hM wX wM) : ∃ (r : Int32) (PX PM : va_W → Prop) (rm : Room), (∀ sz, k_Di l G yX11_where wsX11_where rm_X11_where [.ref hX] wX sz r PX 0 0) ∧ (∀ sz, k_Di l G yX13_where wsX13_where rm [.ref hM] wM sz r PM 0 0) ∧ lw_rm rm ∧ ∀ u v, PX u → PM v → lw_Inv G hX hM u v := by
  obtain ⟨σ, τ, hx, ⟨hm, hR⟩ | ⟨hm, hR⟩⟩ := hI
  · obtain ⟨o, o', e1, e2, e3, hR'⟩ := s0_where hR 
    exact ⟨o, XW G hX (ux_where σ o), MW0 G hM (un_where τ o'), rm_X13_where, fun sz => lx_where hx e1 sz, fun sz => by rw [e3]; exact ln_where hm e2 sz, ⟨rfl, rfl, by decide, by decide⟩, fun u v hu hv => ⟨_, _, hu, Or.inl ⟨hv, hR'⟩⟩⟩
  · obtain ⟨o, o', e1, e2, e3, hR'⟩ := s1_where hR 
    exact ⟨o, XW G hX (ux_where σ o), MW1 G hM (um_where τ o'), rm_X13_where, fun sz => lx_where hx e1 sz, fun sz => by rw [e3]; exact lm_where hm e2 sz, ⟨rfl, rfl, by decide, by decide⟩, fun u v hu hv => ⟨_, _, hu, Or.inr ⟨hv, hR'⟩⟩⟩
theorem I_stack {l : Launch} {G : k_G} {hX hM : Nat} {wX wM : va_W} (hI : lw_Inv G hX hM wX wM) (p1 p2 : Int32) : ∃ (r : Int32) (PX PM : va_W → Prop) (rm : Room), (∀ sz, k_Di l G yX11_stack wsX11_stack rm_X11_stack [.ref hX, .int p1, .int p2] wX sz r PX 0 0) ∧ (∀ sz, k_Di l G yX13_stack wsX13_stack rm [.ref hM, .int p1, .int p2] wM sz r PM 0 0) ∧ lw_rm rm ∧ ∀ u v, PX u → PM v → lw_Inv G hX hM u v := by
  obtain ⟨σ, τ, hx, ⟨hm, hR⟩ | ⟨hm, hR⟩⟩ := hI
  · obtain ⟨o, o', e1, e2, e3, hR'⟩ := s0_stack hR p1 p2
    exact ⟨o.1, XW G hX (ux_stack σ o), MW0 G hM (un_stack τ o'), rm_X13_stack_0, fun sz => lx_stack hx e1 sz, fun sz => by rw [e3]; exact ln_stack hm e2 sz, ⟨rfl, rfl, by decide, by decide⟩, fun u v hu hv => ⟨_, _, hu, Or.inl ⟨hv, hR'⟩⟩⟩
  · obtain ⟨o, o', e1, e2, e3, hR'⟩ := s1_stack hR p1 p2
    exact ⟨o.1, XW G hX (ux_stack σ o), MW1 G hM (um_stack τ o'), rm_X13_stack, fun sz => lx_stack hx e1 sz, fun sz => by rw [e3]; exact lm_stack hm e2 sz, ⟨rfl, rfl, by decide, by decide⟩, fun u v hu hv => ⟨_, _, hu, Or.inr ⟨hv, hR'⟩⟩⟩
theorem I_sum {l : Launch} {G : k_G} {hX hM : Nat} {wX wM : va_W} (hI : lw_Inv G hX hM wX wM) (p1 : Int32) : ∃ (r : Int32) (PX PM : va_W → Prop) (rm : Room), (∀ sz, k_Di l G yX11_sum wsX11_sum rm_X11_sum [.ref hX, .int p1] wX sz r PX 0 0) ∧ (∀ sz, k_Di l G yX13_sum wsX13_sum rm [.ref hM, .int p1] wM sz r PM 0 0) ∧ lw_rm rm ∧ ∀ u v, PX u → PM v → lw_Inv G hX hM u v := by
  obtain ⟨σ, τ, hx, ⟨hm, hR⟩ | ⟨hm, hR⟩⟩ := hI
  · obtain ⟨o, o', e1, e2, e3, hR'⟩ := s0_sum hR p1
    exact ⟨o.1, XW G hX (ux_sum σ o), MW0 G hM (un_sum τ o'), rm_X13_sum_0, fun sz => lx_sum hx e1 sz, fun sz => by rw [e3]; exact ln_sum hm e2 sz, ⟨rfl, rfl, by decide, by decide⟩, fun u v hu hv => ⟨_, _, hu, Or.inl ⟨hv, hR'⟩⟩⟩
  · obtain ⟨o, o', e1, e2, e3, hR'⟩ := s1_sum hR p1
    exact ⟨o.1, XW G hX (ux_sum σ o), MW1 G hM (um_sum τ o'), rm_X13_sum, fun sz => lx_sum hx e1 sz, fun sz => by rw [e3]; exact lm_sum hm e2 sz, ⟨rfl, rfl, by decide, by decide⟩, fun u v hu hv => ⟨_, _, hu, Or.inr ⟨hv, hR'⟩⟩⟩
theorem I_layer {l : Launch} {G : k_G} {hX hM : Nat} {wX wM : va_W} (hI : lw_Inv G hX hM wX wM) (p1 p2 : Int32) : ∃ (r : Int32) (PX PM : va_W → Prop) (rm : Room), (∀ sz, k_Di l G yX11_layer wsX11_layer rm_X11_layer [.ref hX, .int p1, .int p2] wX sz r PX 0 0) ∧ (∀ sz, k_Di l G yX13_layer wsX13_layer rm [.ref hM, .int p1, .int p2] wM sz r PM 0 0) ∧ lw_rm rm ∧ ∀ u v, PX u → PM v → lw_Inv G hX hM u v := by
  obtain ⟨σ, τ, hx, ⟨hm, hR⟩ | ⟨hm, hR⟩⟩ := hI
  · obtain ⟨o, o', e1, e2, e3, hR'⟩ := s0_layer hR p1 p2
    exact ⟨o.1, XW G hX (ux_layer σ o), MW0 G hM (un_layer τ o'), rm_X13_layer_0, fun sz => lx_layer hx e1 sz, fun sz => by rw [e3]; exact ln_layer hm e2 sz, ⟨rfl, rfl, by decide, by decide⟩, fun u v hu hv => ⟨_, _, hu, Or.inl ⟨hv, hR'⟩⟩⟩
  · obtain ⟨o, o', e1, e2, e3, hR'⟩ := s1_layer hR p1 p2
    exact ⟨o.1, XW G hX (ux_layer σ o), MW1 G hM (um_layer τ o'), rm_X13_layer, fun sz => lx_layer hx e1 sz, fun sz => by rw [e3]; exact lm_layer hm e2 sz, ⟨rfl, rfl, by decide, by decide⟩, fun u v hu hv => ⟨_, _, hu, Or.inr ⟨hv, hR'⟩⟩⟩
theorem I_hex {l : Launch} {G : k_G} {hX hM : Nat} {wX wM : va_W} (hI : lw_Inv G hX hM wX wM) (p1 p2 : Int32) : ∃ (r : Int32) (PX PM : va_W → Prop) (rm : Room), (∀ sz, k_Di l G yX11_hex wsX11_hex rm_X11_hex [.ref hX, .int p1, .int p2] wX sz r PX 0 0) ∧ (∀ sz, k_Di l G yX13_hex wsX13_hex rm [.ref hM, .int p1, .int p2] wM sz r PM 0 0) ∧ lw_rm rm ∧ ∀ u v, PX u → PM v → lw_Inv G hX hM u v := by
  obtain ⟨σ, τ, hx, ⟨hm, hR⟩ | ⟨hm, hR⟩⟩ := hI
  · obtain ⟨o, o', e1, e2, e3, hR'⟩ := s0_hex hR p1 p2
    exact ⟨o.1, XW G hX (ux_hex σ o), MW0 G hM (un_hex τ o'), rm_X13_hex_0, fun sz => lx_hex hx e1 sz, fun sz => by rw [e3]; exact ln_hex hm e2 sz, ⟨rfl, rfl, by decide, by decide⟩, fun u v hu hv => ⟨_, _, hu, Or.inl ⟨hv, hR'⟩⟩⟩
  · obtain ⟨o, o', e1, e2, e3, hR'⟩ := s1_hex hR p1 p2
    exact ⟨o.1, XW G hX (ux_hex σ o), MW1 G hM (um_hex τ o'), rm_X13_hex, fun sz => lx_hex hx e1 sz, fun sz => by rw [e3]; exact lm_hex hm e2 sz, ⟨rfl, rfl, by decide, by decide⟩, fun u v hu hv => ⟨_, _, hu, Or.inr ⟨hv, hR'⟩⟩⟩
theorem I_run {l : Launch} {G : k_G} {hX hM : Nat} {wX wM : va_W} (hI : lw_Inv G hX hM wX wM) (p1 p2 : Int32) : ∃ (r : Int32) (PX PM : va_W → Prop) (rm : Room), (∀ sz, k_Di l G yX11_run wsX11_run rm_X11_run [.ref hX, .int p1, .int p2] wX sz r PX 0 0) ∧ (∀ sz, k_Di l G yX13_run wsX13_run rm [.ref hM, .int p1, .int p2] wM sz r PM 0 0) ∧ lw_rm rm ∧ ∀ u v, PX u → PM v → lw_Inv G hX hM u v := by
  obtain ⟨σ, τ, hx, ⟨hm, hR⟩ | ⟨hm, hR⟩⟩ := hI
  · obtain ⟨o, o', e1, e2, e3, hR'⟩ := s0_run hR p1 p2
    exact ⟨o.1, XW G hX (ux_run σ o), MW0 G hM (un_run τ o'), rm_X13_run_0, fun sz => lx_run hx e1 sz, fun sz => by rw [e3]; exact ln_run hm e2 sz, ⟨rfl, rfl, by decide, by decide⟩, fun u v hu hv => ⟨_, _, hu, Or.inl ⟨hv, hR'⟩⟩⟩
  · obtain ⟨o, o', e1, e2, e3, hR'⟩ := s1_run hR p1 p2
    exact ⟨o.1, XW G hX (ux_run σ o), MW1 G hM (um_run τ o'), rm_X13_run, fun sz => lx_run hx e1 sz, fun sz => by rw [e3]; exact lm_run hm e2 sz, ⟨rfl, rfl, by decide, by decide⟩, fun u v hu hv => ⟨_, _, hu, Or.inr ⟨hv, hR'⟩⟩⟩
theorem I_agree {l : Launch} {G : k_G} {hX hM : Nat} {wX wM : va_W} (hI : lw_Inv G hX hM wX wM) (p1 p2 : Int32) : ∃ (r : Int32) (PX PM : va_W → Prop) (rm : Room), (∀ sz, k_Di l G yX11_agree wsX11_agree rm_X11_agree [.ref hX, .int p1, .int p2] wX sz r PX 0 0) ∧ (∀ sz, k_Di l G yX13_agree wsX13_agree rm [.ref hM, .int p1, .int p2] wM sz r PM 0 0) ∧ lw_rm rm ∧ ∀ u v, PX u → PM v → lw_Inv G hX hM u v := by
  obtain ⟨σ, τ, hx, ⟨hm, hR⟩ | ⟨hm, hR⟩⟩ := hI
  · obtain ⟨o, o', e1, e2, e3, hR'⟩ := s0_agree hR p1 p2
    exact ⟨o.1, XW G hX (ux_agree σ o), MW0 G hM (un_agree τ o'), rm_X13_agree_0, fun sz => lx_agree hx e1 sz, fun sz => by rw [e3]; exact ln_agree hm e2 sz, ⟨rfl, rfl, by decide, by decide⟩, fun u v hu hv => ⟨_, _, hu, Or.inl ⟨hv, hR'⟩⟩⟩
  · obtain ⟨o, o', e1, e2, e3, hR'⟩ := s1_agree hR p1 p2
    exact ⟨o.1, XW G hX (ux_agree σ o), MW1 G hM (um_agree τ o'), rm_X13_agree, fun sz => lx_agree hx e1 sz, fun sz => by rw [e3]; exact lm_agree hm e2 sz, ⟨rfl, rfl, by decide, by decide⟩, fun u v hu hv => ⟨_, _, hu, Or.inr ⟨hv, hR'⟩⟩⟩
theorem I_share {l : Launch} {G : k_G} {hX hM : Nat} {wX wM : va_W} (hI : lw_Inv G hX hM wX wM) (p1 p2 : Int32) : ∃ (r : Int64) (PX PM : va_W → Prop) (rm : Room), (∀ sz, k_Dl l G yX11_share wsX11_share rm_X11_share [.ref hX, .int p1, .int p2] wX sz r PX 0 0) ∧ (∀ sz, k_Dl l G yX13_share wsX13_share rm [.ref hM, .int p1, .int p2] wM sz r PM 0 0) ∧ lw_rm rm ∧ ∀ u v, PX u → PM v → lw_Inv G hX hM u v := by
  obtain ⟨σ, τ, hx, ⟨hm, hR⟩ | ⟨hm, hR⟩⟩ := hI
  · obtain ⟨o, o', e1, e2, e3, hR'⟩ := s0_share hR p1 p2
    exact ⟨o.1, XW G hX (ux_share σ o), MW0 G hM (un_share τ o'), rm_X13_share_0, fun sz => lx_share hx e1 sz, fun sz => by rw [e3]; exact ln_share hm e2 sz, ⟨rfl, rfl, by decide, by decide⟩, fun u v hu hv => ⟨_, _, hu, Or.inl ⟨hv, hR'⟩⟩⟩
  · obtain ⟨o, o', e1, e2, e3, hR'⟩ := s1_share hR p1 p2
    exact ⟨o.1, XW G hX (ux_share σ o), MW1 G hM (um_share τ o'), rm_X13_share, fun sz => lx_share hx e1 sz, fun sz => by rw [e3]; exact lm_share hm e2 sz, ⟨rfl, rfl, by decide, by decide⟩, fun u v hu hv => ⟨_, _, hu, Or.inr ⟨hv, hR'⟩⟩⟩
theorem I_energy {l : Launch} {G : k_G} {hX hM : Nat} {wX wM : va_W} (hI : lw_Inv G hX hM wX wM) (p1 : Int32) : ∃ (r : Int32) (PX PM : va_W → Prop) (rm : Room), (∀ sz, k_Di l G yX11_energy wsX11_energy rm_X11_energy [.ref hX, .int p1] wX sz r PX 0 0) ∧ (∀ sz, k_Di l G yX13_energy wsX13_energy rm [.ref hM, .int p1] wM sz r PM 0 0) ∧ lw_rm rm ∧ ∀ u v, PX u → PM v → lw_Inv G hX hM u v := by
  obtain ⟨σ, τ, hx, ⟨hm, hR⟩ | ⟨hm, hR⟩⟩ := hI
  · obtain ⟨o, o', e1, e2, e3, hR'⟩ := s0_energy hR p1
    exact ⟨o.1, XW G hX (ux_energy σ o), MW0 G hM (un_energy τ o'), rm_X13_energy_0, fun sz => lx_energy hx e1 sz, fun sz => by rw [e3]; exact ln_energy hm e2 sz, ⟨rfl, rfl, by decide, by decide⟩, fun u v hu hv => ⟨_, _, hu, Or.inl ⟨hv, hR'⟩⟩⟩
  · obtain ⟨o, o', e1, e2, e3, hR'⟩ := s1_energy hR p1
    exact ⟨o.1, XW G hX (ux_energy σ o), MW1 G hM (um_energy τ o'), rm_X13_energy, fun sz => lx_energy hx e1 sz, fun sz => by rw [e3]; exact lm_energy hm e2 sz, ⟨rfl, rfl, by decide, by decide⟩, fun u v hu hv => ⟨_, _, hu, Or.inr ⟨hv, hR'⟩⟩⟩
theorem I_calmest {l : Launch} {G : k_G} {hX hM : Nat} {wX wM : va_W} (hI : lw_Inv G hX hM wX wM) : ∃ (r : Int32) (PX PM : va_W → Prop) (rm : Room), (∀ sz, k_Di l G yX11_calmest wsX11_calmest rm_X11_calmest [.ref hX] wX sz r PX 0 0) ∧ (∀ sz, k_Di l G yX13_calmest wsX13_calmest rm [.ref hM] wM sz r PM 0 0) ∧ lw_rm rm ∧ ∀ u v, PX u → PM v → lw_Inv G hX hM u v := by
  obtain ⟨σ, τ, hx, ⟨hm, hR⟩ | ⟨hm, hR⟩⟩ := hI
  · obtain ⟨o, o', e1, e2, e3, hR'⟩ := s0_calmest hR 
    exact ⟨o.1, XW G hX (ux_calmest σ o), MW0 G hM (un_calmest τ o'), rm_X13_calmest_0, fun sz => lx_calmest hx e1 sz, fun sz => by rw [e3]; exact ln_calmest hm e2 sz, ⟨rfl, rfl, by decide, by decide⟩, fun u v hu hv => ⟨_, _, hu, Or.inl ⟨hv, hR'⟩⟩⟩
  · obtain ⟨o, o', e1, e2, e3, hR'⟩ := s1_calmest hR 
    exact ⟨o.1, XW G hX (ux_calmest σ o), MW1 G hM (um_calmest τ o'), rm_X13_calmest, fun sz => lx_calmest hx e1 sz, fun sz => by rw [e3]; exact lm_calmest hm e2 sz, ⟨rfl, rfl, by decide, by decide⟩, fun u v hu hv => ⟨_, _, hu, Or.inr ⟨hv, hR'⟩⟩⟩
theorem I_out {l : Launch} {G : k_G} {hX hM : Nat} {wX wM : va_W} (hI : lw_Inv G hX hM wX wM) (p1 p2 : Int32) : ∃ (r : Int32) (PX PM : va_W → Prop) (rm : Room), (∀ sz, k_Di l G yX11_out wsX11_out rm_X11_out [.ref hX, .int p1, .int p2] wX sz r PX 0 0) ∧ (∀ sz, k_Di l G yX13_out wsX13_out rm [.ref hM, .int p1, .int p2] wM sz r PM 0 0) ∧ lw_rm rm ∧ ∀ u v, PX u → PM v → lw_Inv G hX hM u v := by
  obtain ⟨σ, τ, hx, ⟨hm, hR⟩ | ⟨hm, hR⟩⟩ := hI
  · obtain ⟨o, o', e1, e2, e3, hR'⟩ := s0_out hR p1 p2
    exact ⟨o.1, XW G hX (ux_out σ o), MW0 G hM (un_out τ o'), rm_X13_out_0, fun sz => lx_out hx e1 sz, fun sz => by rw [e3]; exact ln_out hm e2 sz, ⟨rfl, rfl, by decide, by decide⟩, fun u v hu hv => ⟨_, _, hu, Or.inl ⟨hv, hR'⟩⟩⟩
  · obtain ⟨o, o', e1, e2, e3, hR'⟩ := s1_out hR p1 p2
    exact ⟨o.1, XW G hX (ux_out σ o), MW1 G hM (um_out τ o'), rm_X13_out, fun sz => lx_out hx e1 sz, fun sz => by rw [e3]; exact lm_out hm e2 sz, ⟨rfl, rfl, by decide, by decide⟩, fun u v hu hv => ⟨_, _, hu, Or.inr ⟨hv, hR'⟩⟩⟩
theorem I_outs {l : Launch} {G : k_G} {hX hM : Nat} {wX wM : va_W} (hI : lw_Inv G hX hM wX wM) (p1 : Int32) : ∃ (r : Int32) (PX PM : va_W → Prop) (rm : Room), (∀ sz, k_Di l G yX11_outs wsX11_outs rm_X11_outs [.ref hX, .int p1] wX sz r PX 0 0) ∧ (∀ sz, k_Di l G yX13_outs wsX13_outs rm [.ref hM, .int p1] wM sz r PM 0 0) ∧ lw_rm rm ∧ ∀ u v, PX u → PM v → lw_Inv G hX hM u v := by
  obtain ⟨σ, τ, hx, ⟨hm, hR⟩ | ⟨hm, hR⟩⟩ := hI
  · obtain ⟨o, o', e1, e2, e3, hR'⟩ := s0_outs hR p1
    exact ⟨o.1, XW G hX (ux_outs σ o), MW0 G hM (un_outs τ o'), rm_X13_outs_0, fun sz => lx_outs hx e1 sz, fun sz => by rw [e3]; exact ln_outs hm e2 sz, ⟨rfl, rfl, by decide, by decide⟩, fun u v hu hv => ⟨_, _, hu, Or.inl ⟨hv, hR'⟩⟩⟩
  · obtain ⟨o, o', e1, e2, e3, hR'⟩ := s1_outs hR p1
    exact ⟨o.1, XW G hX (ux_outs σ o), MW1 G hM (um_outs τ o'), rm_X13_outs, fun sz => lx_outs hx e1 sz, fun sz => by rw [e3]; exact lm_outs hm e2 sz, ⟨rfl, rfl, by decide, by decide⟩, fun u v hu hv => ⟨_, _, hu, Or.inr ⟨hv, hR'⟩⟩⟩
theorem I_firstLine {l : Launch} {G : k_G} {hX hM : Nat} {wX wM : va_W} (hI : lw_Inv G hX hM wX wM) (p1 : Int32) : ∃ (r : Int32) (PX PM : va_W → Prop) (rm : Room), (∀ sz, k_Di l G yX11_firstLine wsX11_firstLine rm_X11_firstLine [.ref hX, .int p1] wX sz r PX 0 0) ∧ (∀ sz, k_Di l G yX13_firstLine wsX13_firstLine rm [.ref hM, .int p1] wM sz r PM 0 0) ∧ lw_rm rm ∧ ∀ u v, PX u → PM v → lw_Inv G hX hM u v := by
  obtain ⟨σ, τ, hx, ⟨hm, hR⟩ | ⟨hm, hR⟩⟩ := hI
  · obtain ⟨o, o', e1, e2, e3, hR'⟩ := s0_firstLine hR p1
    exact ⟨o.1, XW G hX (ux_firstLine σ o), MW0 G hM (un_firstLine τ o'), rm_X13_firstLine_0, fun sz => lx_firstLine hx e1 sz, fun sz => by rw [e3]; exact ln_firstLine hm e2 sz, ⟨rfl, rfl, by decide, by decide⟩, fun u v hu hv => ⟨_, _, hu, Or.inl ⟨hv, hR'⟩⟩⟩
  · obtain ⟨o, o', e1, e2, e3, hR'⟩ := s1_firstLine hR p1
    exact ⟨o.1, XW G hX (ux_firstLine σ o), MW1 G hM (um_firstLine τ o'), rm_X13_firstLine, fun sz => lx_firstLine hx e1 sz, fun sz => by rw [e3]; exact lm_firstLine hm e2 sz, ⟨rfl, rfl, by decide, by decide⟩, fun u v hu hv => ⟨_, _, hu, Or.inr ⟨hv, hR'⟩⟩⟩
theorem I_sameLines {l : Launch} {G : k_G} {hX hM : Nat} {wX wM : va_W} (hI : lw_Inv G hX hM wX wM) (p1 p2 : Int32) : ∃ (r : Int32) (PX PM : va_W → Prop) (rm : Room), (∀ sz, k_Di l G yX11_sameLines wsX11_sameLines rm_X11_sameLines [.ref hX, .int p1, .int p2] wX sz r PX 0 0) ∧ (∀ sz, k_Di l G yX13_sameLines wsX13_sameLines rm [.ref hM, .int p1, .int p2] wM sz r PM 0 0) ∧ lw_rm rm ∧ ∀ u v, PX u → PM v → lw_Inv G hX hM u v := by
  obtain ⟨σ, τ, hx, ⟨hm, hR⟩ | ⟨hm, hR⟩⟩ := hI
  · obtain ⟨o, o', e1, e2, e3, hR'⟩ := s0_sameLines hR p1 p2
    exact ⟨o.1, XW G hX (ux_sameLines σ o), MW0 G hM (un_sameLines τ o'), rm_X13_sameLines_0, fun sz => lx_sameLines hx e1 sz, fun sz => by rw [e3]; exact ln_sameLines hm e2 sz, ⟨rfl, rfl, by decide, by decide⟩, fun u v hu hv => ⟨_, _, hu, Or.inl ⟨hv, hR'⟩⟩⟩
  · obtain ⟨o, o', e1, e2, e3, hR'⟩ := s1_sameLines hR p1 p2
    exact ⟨o.1, XW G hX (ux_sameLines σ o), MW1 G hM (um_sameLines τ o'), rm_X13_sameLines, fun sz => lx_sameLines hx e1 sz, fun sz => by rw [e3]; exact lm_sameLines hm e2 sz, ⟨rfl, rfl, by decide, by decide⟩, fun u v hu hv => ⟨_, _, hu, Or.inr ⟨hv, hR'⟩⟩⟩
theorem I_ground {l : Launch} {G : k_G} {hX hM : Nat} {wX wM : va_W} (hI : lw_Inv G hX hM wX wM) (p1 : Int32) : ∃ (r : Int32) (PX PM : va_W → Prop) (rm : Room), (∀ sz, k_Di l G yX11_ground wsX11_ground rm_X11_ground [.ref hX, .int p1] wX sz r PX 0 0) ∧ (∀ sz, k_Di l G yX13_ground wsX13_ground rm [.ref hM, .int p1] wM sz r PM 0 0) ∧ lw_rm rm ∧ ∀ u v, PX u → PM v → lw_Inv G hX hM u v := by
  obtain ⟨σ, τ, hx, ⟨hm, hR⟩ | ⟨hm, hR⟩⟩ := hI
  · obtain ⟨o, o', e1, e2, e3, hR'⟩ := s0_ground hR p1
    exact ⟨o.1, XW G hX (ux_ground σ o), MW0 G hM (un_ground τ o'), rm_X13_ground_0, fun sz => lx_ground hx e1 sz, fun sz => by rw [e3]; exact ln_ground hm e2 sz, ⟨rfl, rfl, by decide, by decide⟩, fun u v hu hv => ⟨_, _, hu, Or.inl ⟨hv, hR'⟩⟩⟩
  · obtain ⟨o, o', e1, e2, e3, hR'⟩ := s1_ground hR p1
    exact ⟨o.1, XW G hX (ux_ground σ o), MW1 G hM (um_ground τ o'), rm_X13_ground, fun sz => lx_ground hx e1 sz, fun sz => by rw [e3]; exact lm_ground hm e2 sz, ⟨rfl, rfl, by decide, by decide⟩, fun u v hu hv => ⟨_, _, hu, Or.inr ⟨hv, hR'⟩⟩⟩
theorem I_groundRow {l : Launch} {G : k_G} {hX hM : Nat} {wX wM : va_W} (hI : lw_Inv G hX hM wX wM) (p1 : Int32) : ∃ (r : Int32) (PX PM : va_W → Prop) (rm : Room), (∀ sz, k_Di l G yX11_groundRow wsX11_groundRow rm_X11_groundRow [.ref hX, .int p1] wX sz r PX 0 0) ∧ (∀ sz, k_Di l G yX13_groundRow wsX13_groundRow rm [.ref hM, .int p1] wM sz r PM 0 0) ∧ lw_rm rm ∧ ∀ u v, PX u → PM v → lw_Inv G hX hM u v := by
  obtain ⟨σ, τ, hx, ⟨hm, hR⟩ | ⟨hm, hR⟩⟩ := hI
  · obtain ⟨o, o', e1, e2, e3, hR'⟩ := s0_groundRow hR p1
    exact ⟨o.1, XW G hX (ux_groundRow σ o), MW0 G hM (un_groundRow τ o'), rm_X13_groundRow_0, fun sz => lx_groundRow hx e1 sz, fun sz => by rw [e3]; exact ln_groundRow hm e2 sz, ⟨rfl, rfl, by decide, by decide⟩, fun u v hu hv => ⟨_, _, hu, Or.inl ⟨hv, hR'⟩⟩⟩
  · obtain ⟨o, o', e1, e2, e3, hR'⟩ := s1_groundRow hR p1
    exact ⟨o.1, XW G hX (ux_groundRow σ o), MW1 G hM (um_groundRow τ o'), rm_X13_groundRow, fun sz => lx_groundRow hx e1 sz, fun sz => by rw [e3]; exact lm_groundRow hm e2 sz, ⟨rfl, rfl, by decide, by decide⟩, fun u v hu hv => ⟨_, _, hu, Or.inr ⟨hv, hR'⟩⟩⟩
theorem I_groundMany {l : Launch} {G : k_G} {hX hM : Nat} {wX wM : va_W} (hI : lw_Inv G hX hM wX wM) (p1 : Int32) : ∃ (r : Int32) (PX PM : va_W → Prop) (rm : Room), (∀ sz, k_Di l G yX11_groundMany wsX11_groundMany rm_X11_groundMany [.ref hX, .int p1] wX sz r PX 0 0) ∧ (∀ sz, k_Di l G yX13_groundMany wsX13_groundMany rm [.ref hM, .int p1] wM sz r PM 0 0) ∧ lw_rm rm ∧ ∀ u v, PX u → PM v → lw_Inv G hX hM u v := by
  obtain ⟨σ, τ, hx, ⟨hm, hR⟩ | ⟨hm, hR⟩⟩ := hI
  · obtain ⟨o, o', e1, e2, e3, hR'⟩ := s0_groundMany hR p1
    exact ⟨o.1, XW G hX (ux_groundMany σ o), MW0 G hM (un_groundMany τ o'), rm_X13_groundMany_0, fun sz => lx_groundMany hx e1 sz, fun sz => by rw [e3]; exact ln_groundMany hm e2 sz, ⟨rfl, rfl, by decide, by decide⟩, fun u v hu hv => ⟨_, _, hu, Or.inl ⟨hv, hR'⟩⟩⟩
  · obtain ⟨o, o', e1, e2, e3, hR'⟩ := s1_groundMany hR p1
    exact ⟨o.1, XW G hX (ux_groundMany σ o), MW1 G hM (um_groundMany τ o'), rm_X13_groundMany, fun sz => lx_groundMany hx e1 sz, fun sz => by rw [e3]; exact lm_groundMany hm e2 sz, ⟨rfl, rfl, by decide, by decide⟩, fun u v hu hv => ⟨_, _, hu, Or.inr ⟨hv, hR'⟩⟩⟩
theorem I_groundBest {l : Launch} {G : k_G} {hX hM : Nat} {wX wM : va_W} (hI : lw_Inv G hX hM wX wM) : ∃ (r : Int32) (PX PM : va_W → Prop) (rm : Room), (∀ sz, k_Di l G yX11_groundBest wsX11_groundBest rm_X11_groundBest [.ref hX] wX sz r PX 0 0) ∧ (∀ sz, k_Di l G yX13_groundBest wsX13_groundBest rm [.ref hM] wM sz r PM 0 0) ∧ lw_rm rm ∧ ∀ u v, PX u → PM v → lw_Inv G hX hM u v := by
  obtain ⟨σ, τ, hx, ⟨hm, hR⟩ | ⟨hm, hR⟩⟩ := hI
  · obtain ⟨o, o', e1, e2, e3, hR'⟩ := s0_groundBest hR 
    exact ⟨o.1, XW G hX (ux_groundBest σ o), MW0 G hM (un_groundBest τ o'), rm_X13_groundBest_0, fun sz => lx_groundBest hx e1 sz, fun sz => by rw [e3]; exact ln_groundBest hm e2 sz, ⟨rfl, rfl, by decide, by decide⟩, fun u v hu hv => ⟨_, _, hu, Or.inl ⟨hv, hR'⟩⟩⟩
  · obtain ⟨o, o', e1, e2, e3, hR'⟩ := s1_groundBest hR 
    exact ⟨o.1, XW G hX (ux_groundBest σ o), MW1 G hM (um_groundBest τ o'), rm_X13_groundBest, fun sz => lx_groundBest hx e1 sz, fun sz => by rw [e3]; exact lm_groundBest hm e2 sz, ⟨rfl, rfl, by decide, by decide⟩, fun u v hu hv => ⟨_, _, hu, Or.inr ⟨hv, hR'⟩⟩⟩
theorem I_kinds {l : Launch} {G : k_G} {hX hM : Nat} {wX wM : va_W} (hI : lw_Inv G hX hM wX wM) (p1 p2 p3 : Int32) : ∃ (r : Int32) (PX PM : va_W → Prop) (rm : Room), (∀ sz, k_Di l G yX11_kinds wsX11_kinds rm_X11_kinds [.ref hX, .int p1, .int p2, .int p3] wX sz r PX 0 0) ∧ (∀ sz, k_Di l G yX13_kinds wsX13_kinds rm [.ref hM, .int p1, .int p2, .int p3] wM sz r PM 0 0) ∧ lw_rm rm ∧ ∀ u v, PX u → PM v → lw_Inv G hX hM u v := by
  obtain ⟨σ, τ, hx, ⟨hm, hR⟩ | ⟨hm, hR⟩⟩ := hI
  · obtain ⟨o, o', e1, e2, e3, hR'⟩ := s0_kinds hR p1 p2 p3
    exact ⟨o.1, XW G hX (ux_kinds σ o), MW0 G hM (un_kinds τ o'), rm_X13_kinds_0, fun sz => lx_kinds hx e1 sz, fun sz => by rw [e3]; exact ln_kinds hm e2 sz, ⟨rfl, rfl, by decide, by decide⟩, fun u v hu hv => ⟨_, _, hu, Or.inl ⟨hv, hR'⟩⟩⟩
  · obtain ⟨o, o', e1, e2, e3, hR'⟩ := s1_kinds hR p1 p2 p3
    exact ⟨o.1, XW G hX (ux_kinds σ o), MW1 G hM (um_kinds τ o'), rm_X13_kinds, fun sz => lx_kinds hx e1 sz, fun sz => by rw [e3]; exact lm_kinds hm e2 sz, ⟨rfl, rfl, by decide, by decide⟩, fun u v hu hv => ⟨_, _, hu, Or.inr ⟨hv, hR'⟩⟩⟩
theorem I_alike {l : Launch} {G : k_G} {hX hM : Nat} {wX wM : va_W} (hI : lw_Inv G hX hM wX wM) (p1 p2 p3 : Int32) : ∃ (r : Int32) (PX PM : va_W → Prop) (rm : Room), (∀ sz, k_Di l G yX11_alike wsX11_alike rm_X11_alike [.ref hX, .int p1, .int p2, .int p3] wX sz r PX 0 0) ∧ (∀ sz, k_Di l G yX13_alike wsX13_alike rm [.ref hM, .int p1, .int p2, .int p3] wM sz r PM 0 0) ∧ lw_rm rm ∧ ∀ u v, PX u → PM v → lw_Inv G hX hM u v := by
  obtain ⟨σ, τ, hx, ⟨hm, hR⟩ | ⟨hm, hR⟩⟩ := hI
  · obtain ⟨o, o', e1, e2, e3, hR'⟩ := s0_alike hR p1 p2 p3
    exact ⟨o.1, XW G hX (ux_alike σ o), MW0 G hM (un_alike τ o'), rm_X13_alike_0, fun sz => lx_alike hx e1 sz, fun sz => by rw [e3]; exact ln_alike hm e2 sz, ⟨rfl, rfl, by decide, by decide⟩, fun u v hu hv => ⟨_, _, hu, Or.inl ⟨hv, hR'⟩⟩⟩
  · obtain ⟨o, o', e1, e2, e3, hR'⟩ := s1_alike hR p1 p2 p3
    exact ⟨o.1, XW G hX (ux_alike σ o), MW1 G hM (um_alike τ o'), rm_X13_alike, fun sz => lx_alike hx e1 sz, fun sz => by rw [e3]; exact lm_alike hm e2 sz, ⟨rfl, rfl, by decide, by decide⟩, fun u v hu hv => ⟨_, _, hu, Or.inr ⟨hv, hR'⟩⟩⟩
theorem I_least {l : Launch} {G : k_G} {hX hM : Nat} {wX wM : va_W} (hI : lw_Inv G hX hM wX wM) (p1 p2 : Int32) : ∃ (r : Int32) (PX PM : va_W → Prop) (rm : Room), (∀ sz, k_Di l G yX11_least wsX11_least rm_X11_least [.ref hX, .int p1, .int p2] wX sz r PX 0 0) ∧ (∀ sz, k_Di l G yX13_least wsX13_least rm [.ref hM, .int p1, .int p2] wM sz r PM 0 0) ∧ lw_rm rm ∧ ∀ u v, PX u → PM v → lw_Inv G hX hM u v := by
  obtain ⟨σ, τ, hx, ⟨hm, hR⟩ | ⟨hm, hR⟩⟩ := hI
  · obtain ⟨o, o', e1, e2, e3, hR'⟩ := s0_least hR p1 p2
    exact ⟨o.1, XW G hX (ux_least σ o), MW0 G hM (un_least τ o'), rm_X13_least_0, fun sz => lx_least hx e1 sz, fun sz => by rw [e3]; exact ln_least hm e2 sz, ⟨rfl, rfl, by decide, by decide⟩, fun u v hu hv => ⟨_, _, hu, Or.inl ⟨hv, hR'⟩⟩⟩
  · obtain ⟨o, o', e1, e2, e3, hR'⟩ := s1_least hR p1 p2
    exact ⟨o.1, XW G hX (ux_least σ o), MW1 G hM (um_least τ o'), rm_X13_least, fun sz => lx_least hx e1 sz, fun sz => by rw [e3]; exact lm_least hm e2 sz, ⟨rfl, rfl, by decide, by decide⟩, fun u v hu hv => ⟨_, _, hu, Or.inr ⟨hv, hR'⟩⟩⟩
theorem I_manyAlike {l : Launch} {G : k_G} {hX hM : Nat} {wX wM : va_W} (hI : lw_Inv G hX hM wX wM) (p1 p2 : Int32) : ∃ (r : Int32) (PX PM : va_W → Prop) (rm : Room), (∀ sz, k_Di l G yX11_manyAlike wsX11_manyAlike rm_X11_manyAlike [.ref hX, .int p1, .int p2] wX sz r PX 0 0) ∧ (∀ sz, k_Di l G yX13_manyAlike wsX13_manyAlike rm [.ref hM, .int p1, .int p2] wM sz r PM 0 0) ∧ lw_rm rm ∧ ∀ u v, PX u → PM v → lw_Inv G hX hM u v := by
  obtain ⟨σ, τ, hx, ⟨hm, hR⟩ | ⟨hm, hR⟩⟩ := hI
  · obtain ⟨o, o', e1, e2, e3, hR'⟩ := s0_manyAlike hR p1 p2
    exact ⟨o.1, XW G hX (ux_manyAlike σ o), MW0 G hM (un_manyAlike τ o'), rm_X13_manyAlike_0, fun sz => lx_manyAlike hx e1 sz, fun sz => by rw [e3]; exact ln_manyAlike hm e2 sz, ⟨rfl, rfl, by decide, by decide⟩, fun u v hu hv => ⟨_, _, hu, Or.inl ⟨hv, hR'⟩⟩⟩
  · obtain ⟨o, o', e1, e2, e3, hR'⟩ := s1_manyAlike hR p1 p2
    exact ⟨o.1, XW G hX (ux_manyAlike σ o), MW1 G hM (um_manyAlike τ o'), rm_X13_manyAlike, fun sz => lx_manyAlike hx e1 sz, fun sz => by rw [e3]; exact lm_manyAlike hm e2 sz, ⟨rfl, rfl, by decide, by decide⟩, fun u v hu hv => ⟨_, _, hu, Or.inr ⟨hv, hR'⟩⟩⟩
theorem I_slips {l : Launch} {G : k_G} {hX hM : Nat} {wX wM : va_W} (hI : lw_Inv G hX hM wX wM) (p1 p2 p3 : Int32) : ∃ (r : Int32) (PX PM : va_W → Prop) (rm : Room), (∀ sz, k_Di l G yX11_slips wsX11_slips rm_X11_slips [.ref hX, .int p1, .int p2, .int p3] wX sz r PX 0 0) ∧ (∀ sz, k_Di l G yX13_slips wsX13_slips rm [.ref hM, .int p1, .int p2, .int p3] wM sz r PM 0 0) ∧ lw_rm rm ∧ ∀ u v, PX u → PM v → lw_Inv G hX hM u v := by
  obtain ⟨σ, τ, hx, ⟨hm, hR⟩ | ⟨hm, hR⟩⟩ := hI
  · obtain ⟨o, o', e1, e2, e3, hR'⟩ := s0_slips hR p1 p2 p3
    exact ⟨o.1, XW G hX (ux_slips σ o), MW0 G hM (un_slips τ o'), rm_X13_slips_0, fun sz => lx_slips hx e1 sz, fun sz => by rw [e3]; exact ln_slips hm e2 sz, ⟨rfl, rfl, by decide, by decide⟩, fun u v hu hv => ⟨_, _, hu, Or.inl ⟨hv, hR'⟩⟩⟩
  · obtain ⟨o, o', e1, e2, e3, hR'⟩ := s1_slips hR p1 p2 p3
    exact ⟨o.1, XW G hX (ux_slips σ o), MW1 G hM (um_slips τ o'), rm_X13_slips, fun sz => lx_slips hx e1 sz, fun sz => by rw [e3]; exact lm_slips hm e2 sz, ⟨rfl, rfl, by decide, by decide⟩, fun u v hu hv => ⟨_, _, hu, Or.inr ⟨hv, hR'⟩⟩⟩
theorem I_slipEnergy {l : Launch} {G : k_G} {hX hM : Nat} {wX wM : va_W} (hI : lw_Inv G hX hM wX wM) (p1 p2 : Int32) : ∃ (r : Int32) (PX PM : va_W → Prop) (rm : Room), (∀ sz, k_Di l G yX11_slipEnergy wsX11_slipEnergy rm_X11_slipEnergy [.ref hX, .int p1, .int p2] wX sz r PX 0 0) ∧ (∀ sz, k_Di l G yX13_slipEnergy wsX13_slipEnergy rm [.ref hM, .int p1, .int p2] wM sz r PM 0 0) ∧ lw_rm rm ∧ ∀ u v, PX u → PM v → lw_Inv G hX hM u v := by
  obtain ⟨σ, τ, hx, ⟨hm, hR⟩ | ⟨hm, hR⟩⟩ := hI
  · obtain ⟨o, o', e1, e2, e3, hR'⟩ := s0_slipEnergy hR p1 p2
    exact ⟨o.1, XW G hX (ux_slipEnergy σ o), MW0 G hM (un_slipEnergy τ o'), rm_X13_slipEnergy_0, fun sz => lx_slipEnergy hx e1 sz, fun sz => by rw [e3]; exact ln_slipEnergy hm e2 sz, ⟨rfl, rfl, by decide, by decide⟩, fun u v hu hv => ⟨_, _, hu, Or.inl ⟨hv, hR'⟩⟩⟩
  · obtain ⟨o, o', e1, e2, e3, hR'⟩ := s1_slipEnergy hR p1 p2
    exact ⟨o.1, XW G hX (ux_slipEnergy σ o), MW1 G hM (um_slipEnergy τ o'), rm_X13_slipEnergy, fun sz => lx_slipEnergy hx e1 sz, fun sz => by rw [e3]; exact lm_slipEnergy hm e2 sz, ⟨rfl, rfl, by decide, by decide⟩, fun u v hu hv => ⟨_, _, hu, Or.inr ⟨hv, hR'⟩⟩⟩
theorem I_weakest {l : Launch} {G : k_G} {hX hM : Nat} {wX wM : va_W} (hI : lw_Inv G hX hM wX wM) (p1 : Int32) : ∃ (r : Int32) (PX PM : va_W → Prop) (rm : Room), (∀ sz, k_Di l G yX11_weakest wsX11_weakest rm_X11_weakest [.ref hX, .int p1] wX sz r PX 0 0) ∧ (∀ sz, k_Di l G yX13_weakest wsX13_weakest rm [.ref hM, .int p1] wM sz r PM 0 0) ∧ lw_rm rm ∧ ∀ u v, PX u → PM v → lw_Inv G hX hM u v := by
  obtain ⟨σ, τ, hx, ⟨hm, hR⟩ | ⟨hm, hR⟩⟩ := hI
  · obtain ⟨o, o', e1, e2, e3, hR'⟩ := s0_weakest hR p1
    exact ⟨o.1, XW G hX (ux_weakest σ o), MW0 G hM (un_weakest τ o'), rm_X13_weakest_0, fun sz => lx_weakest hx e1 sz, fun sz => by rw [e3]; exact ln_weakest hm e2 sz, ⟨rfl, rfl, by decide, by decide⟩, fun u v hu hv => ⟨_, _, hu, Or.inl ⟨hv, hR'⟩⟩⟩
  · obtain ⟨o, o', e1, e2, e3, hR'⟩ := s1_weakest hR p1
    exact ⟨o.1, XW G hX (ux_weakest σ o), MW1 G hM (um_weakest τ o'), rm_X13_weakest, fun sz => lx_weakest hx e1 sz, fun sz => by rw [e3]; exact lm_weakest hm e2 sz, ⟨rfl, rfl, by decide, by decide⟩, fun u v hu hv => ⟨_, _, hu, Or.inr ⟨hv, hR'⟩⟩⟩
theorem I_relax {l : Launch} {G : k_G} {hX hM : Nat} {wX wM : va_W} (hI : lw_Inv G hX hM wX wM) (p1 : Int32) : ∃ (r : Int32) (PX PM : va_W → Prop) (rm : Room), (∀ sz, k_Di l G yX11_relax wsX11_relax rm_X11_relax [.ref hX, .int p1] wX sz r PX 0 0) ∧ (∀ sz, k_Di l G yX13_relax wsX13_relax rm [.ref hM, .int p1] wM sz r PM 0 0) ∧ lw_rm rm ∧ ∀ u v, PX u → PM v → lw_Inv G hX hM u v := by
  obtain ⟨σ, τ, hx, ⟨hm, hR⟩ | ⟨hm, hR⟩⟩ := hI
  · obtain ⟨o, o', e1, e2, e3, hR'⟩ := s0_relax hR p1
    exact ⟨o.1, XW G hX (ux_relax σ o), MW0 G hM (un_relax τ o'), rm_X13_relax_0, fun sz => lx_relax hx e1 sz, fun sz => by rw [e3]; exact ln_relax hm e2 sz, ⟨rfl, rfl, by decide, by decide⟩, fun u v hu hv => ⟨_, _, hu, Or.inl ⟨hv, hR'⟩⟩⟩
  · obtain ⟨o, o', e1, e2, e3, hR'⟩ := s1_relax hR p1
    exact ⟨o.1, XW G hX (ux_relax σ o), MW1 G hM (um_relax τ o'), rm_X13_relax, fun sz => lx_relax hx e1 sz, fun sz => by rw [e3]; exact lm_relax hm e2 sz, ⟨rfl, rfl, by decide, by decide⟩, fun u v hu hv => ⟨_, _, hu, Or.inr ⟨hv, hR'⟩⟩⟩
theorem I_relaxed {l : Launch} {G : k_G} {hX hM : Nat} {wX wM : va_W} (hI : lw_Inv G hX hM wX wM) (p1 : Int32) : ∃ (r : Int32) (PX PM : va_W → Prop) (rm : Room), (∀ sz, k_Di l G yX11_relaxed wsX11_relaxed rm_X11_relaxed [.ref hX, .int p1] wX sz r PX 0 0) ∧ (∀ sz, k_Di l G yX13_relaxed wsX13_relaxed rm [.ref hM, .int p1] wM sz r PM 0 0) ∧ lw_rm rm ∧ ∀ u v, PX u → PM v → lw_Inv G hX hM u v := by
  obtain ⟨σ, τ, hx, ⟨hm, hR⟩ | ⟨hm, hR⟩⟩ := hI
  · obtain ⟨o, o', e1, e2, e3, hR'⟩ := s0_relaxed hR p1
    exact ⟨o.1, XW G hX (ux_relaxed σ o), MW0 G hM (un_relaxed τ o'), rm_X13_relaxed_0, fun sz => lx_relaxed hx e1 sz, fun sz => by rw [e3]; exact ln_relaxed hm e2 sz, ⟨rfl, rfl, by decide, by decide⟩, fun u v hu hv => ⟨_, _, hu, Or.inl ⟨hv, hR'⟩⟩⟩
  · obtain ⟨o, o', e1, e2, e3, hR'⟩ := s1_relaxed hR p1
    exact ⟨o.1, XW G hX (ux_relaxed σ o), MW1 G hM (um_relaxed τ o'), rm_X13_relaxed, fun sz => lx_relaxed hx e1 sz, fun sz => by rw [e3]; exact lm_relaxed hm e2 sz, ⟨rfl, rfl, by decide, by decide⟩, fun u v hu hv => ⟨_, _, hu, Or.inr ⟨hv, hR'⟩⟩⟩
theorem I_pass {l : Launch} {G : k_G} {hX hM : Nat} {wX wM : va_W} (hI : lw_Inv G hX hM wX wM) (p1 p2 : Int32) : ∃ (r : Int32) (PX PM : va_W → Prop) (rm : Room), (∀ sz, k_Di l G yX11_pass wsX11_pass rm_X11_pass [.ref hX, .int p1, .int p2] wX sz r PX 0 0) ∧ (∀ sz, k_Di l G yX13_pass wsX13_pass rm [.ref hM, .int p1, .int p2] wM sz r PM 0 0) ∧ lw_rm rm ∧ ∀ u v, PX u → PM v → lw_Inv G hX hM u v := by
  obtain ⟨σ, τ, hx, ⟨hm, hR⟩ | ⟨hm, hR⟩⟩ := hI
  · obtain ⟨o, o', e1, e2, e3, hR'⟩ := s0_pass hR p1 p2
    exact ⟨o.1, XW G hX (ux_pass σ o), MW0 G hM (un_pass τ o'), rm_X13_pass_0, fun sz => lx_pass hx e1 sz, fun sz => by rw [e3]; exact ln_pass hm e2 sz, ⟨rfl, rfl, by decide, by decide⟩, fun u v hu hv => ⟨_, _, hu, Or.inl ⟨hv, hR'⟩⟩⟩
  · obtain ⟨o, o', e1, e2, e3, hR'⟩ := s1_pass hR p1 p2
    exact ⟨o.1, XW G hX (ux_pass σ o), MW1 G hM (um_pass τ o'), rm_X13_pass, fun sz => lx_pass hx e1 sz, fun sz => by rw [e3]; exact lm_pass hm e2 sz, ⟨rfl, rfl, by decide, by decide⟩, fun u v hu hv => ⟨_, _, hu, Or.inr ⟨hv, hR'⟩⟩⟩
theorem I_valley {l : Launch} {G : k_G} {hX hM : Nat} {wX wM : va_W} (hI : lw_Inv G hX hM wX wM) (p1 : Int32) : ∃ (r : Int32) (PX PM : va_W → Prop) (rm : Room), (∀ sz, k_Di l G yX11_valley wsX11_valley rm_X11_valley [.ref hX, .int p1] wX sz r PX 0 0) ∧ (∀ sz, k_Di l G yX13_valley wsX13_valley rm [.ref hM, .int p1] wM sz r PM 0 0) ∧ lw_rm rm ∧ ∀ u v, PX u → PM v → lw_Inv G hX hM u v := by
  obtain ⟨σ, τ, hx, ⟨hm, hR⟩ | ⟨hm, hR⟩⟩ := hI
  · obtain ⟨o, o', e1, e2, e3, hR'⟩ := s0_valley hR p1
    exact ⟨o.1, XW G hX (ux_valley σ o), MW0 G hM (un_valley τ o'), rm_X13_valley_0, fun sz => lx_valley hx e1 sz, fun sz => by rw [e3]; exact ln_valley hm e2 sz, ⟨rfl, rfl, by decide, by decide⟩, fun u v hu hv => ⟨_, _, hu, Or.inl ⟨hv, hR'⟩⟩⟩
  · obtain ⟨o, o', e1, e2, e3, hR'⟩ := s1_valley hR p1
    exact ⟨o.1, XW G hX (ux_valley σ o), MW1 G hM (um_valley τ o'), rm_X13_valley, fun sz => lx_valley hx e1 sz, fun sz => by rw [e3]; exact lm_valley hm e2 sz, ⟨rfl, rfl, by decide, by decide⟩, fun u v hu hv => ⟨_, _, hu, Or.inr ⟨hv, hR'⟩⟩⟩
theorem I_faultEnergy {l : Launch} {G : k_G} {hX hM : Nat} {wX wM : va_W} (hI : lw_Inv G hX hM wX wM) (p1 p2 : Int32) : ∃ (r : Int32) (PX PM : va_W → Prop) (rm : Room), (∀ sz, k_Di l G yX11_faultEnergy wsX11_faultEnergy rm_X11_faultEnergy [.ref hX, .int p1, .int p2] wX sz r PX 0 0) ∧ (∀ sz, k_Di l G yX13_faultEnergy wsX13_faultEnergy rm [.ref hM, .int p1, .int p2] wM sz r PM 0 0) ∧ lw_rm rm ∧ ∀ u v, PX u → PM v → lw_Inv G hX hM u v := by
  obtain ⟨σ, τ, hx, ⟨hm, hR⟩ | ⟨hm, hR⟩⟩ := hI
  · obtain ⟨o, o', e1, e2, e3, hR'⟩ := s0_faultEnergy hR p1 p2
    exact ⟨o.1, XW G hX (ux_faultEnergy σ o), MW0 G hM (un_faultEnergy τ o'), rm_X13_faultEnergy_0, fun sz => lx_faultEnergy hx e1 sz, fun sz => by rw [e3]; exact ln_faultEnergy hm e2 sz, ⟨rfl, rfl, by decide, by decide⟩, fun u v hu hv => ⟨_, _, hu, Or.inl ⟨hv, hR'⟩⟩⟩
  · obtain ⟨o, o', e1, e2, e3, hR'⟩ := s1_faultEnergy hR p1 p2
    exact ⟨o.1, XW G hX (ux_faultEnergy σ o), MW1 G hM (um_faultEnergy τ o'), rm_X13_faultEnergy, fun sz => lx_faultEnergy hx e1 sz, fun sz => by rw [e3]; exact lm_faultEnergy hm e2 sz, ⟨rfl, rfl, by decide, by decide⟩, fun u v hu hv => ⟨_, _, hu, Or.inr ⟨hv, hR'⟩⟩⟩
theorem I_bestFault {l : Launch} {G : k_G} {hX hM : Nat} {wX wM : va_W} (hI : lw_Inv G hX hM wX wM) (p1 : Int32) : ∃ (r : Int32) (PX PM : va_W → Prop) (rm : Room), (∀ sz, k_Di l G yX11_bestFault wsX11_bestFault rm_X11_bestFault [.ref hX, .int p1] wX sz r PX 0 0) ∧ (∀ sz, k_Di l G yX13_bestFault wsX13_bestFault rm [.ref hM, .int p1] wM sz r PM 0 0) ∧ lw_rm rm ∧ ∀ u v, PX u → PM v → lw_Inv G hX hM u v := by
  obtain ⟨σ, τ, hx, ⟨hm, hR⟩ | ⟨hm, hR⟩⟩ := hI
  · obtain ⟨o, o', e1, e2, e3, hR'⟩ := s0_bestFault hR p1
    exact ⟨o.1, XW G hX (ux_bestFault σ o), MW0 G hM (un_bestFault τ o'), rm_X13_bestFault_0, fun sz => lx_bestFault hx e1 sz, fun sz => by rw [e3]; exact ln_bestFault hm e2 sz, ⟨rfl, rfl, by decide, by decide⟩, fun u v hu hv => ⟨_, _, hu, Or.inl ⟨hv, hR'⟩⟩⟩
  · obtain ⟨o, o', e1, e2, e3, hR'⟩ := s1_bestFault hR p1
    exact ⟨o.1, XW G hX (ux_bestFault σ o), MW1 G hM (um_bestFault τ o'), rm_X13_bestFault, fun sz => lx_bestFault hx e1 sz, fun sz => by rw [e3]; exact lm_bestFault hm e2 sz, ⟨rfl, rfl, by decide, by decide⟩, fun u v hu hv => ⟨_, _, hu, Or.inr ⟨hv, hR'⟩⟩⟩
theorem I_differs {l : Launch} {G : k_G} {hX hM : Nat} {wX wM : va_W} (hI : lw_Inv G hX hM wX wM) (p1 p2 : Int32) : ∃ (r : Int32) (PX PM : va_W → Prop) (rm : Room), (∀ sz, k_Di l G yX11_differs wsX11_differs rm_X11_differs [.ref hX, .int p1, .int p2] wX sz r PX 0 0) ∧ (∀ sz, k_Di l G yX13_differs wsX13_differs rm [.ref hM, .int p1, .int p2] wM sz r PM 0 0) ∧ lw_rm rm ∧ ∀ u v, PX u → PM v → lw_Inv G hX hM u v := by
  obtain ⟨σ, τ, hx, ⟨hm, hR⟩ | ⟨hm, hR⟩⟩ := hI
  · obtain ⟨o, o', e1, e2, e3, hR'⟩ := s0_differs hR p1 p2
    exact ⟨o.1, XW G hX (ux_differs σ o), MW0 G hM (un_differs τ o'), rm_X13_differs_0, fun sz => lx_differs hx e1 sz, fun sz => by rw [e3]; exact ln_differs hm e2 sz, ⟨rfl, rfl, by decide, by decide⟩, fun u v hu hv => ⟨_, _, hu, Or.inl ⟨hv, hR'⟩⟩⟩
  · obtain ⟨o, o', e1, e2, e3, hR'⟩ := s1_differs hR p1 p2
    exact ⟨o.1, XW G hX (ux_differs σ o), MW1 G hM (um_differs τ o'), rm_X13_differs, fun sz => lx_differs hx e1 sz, fun sz => by rw [e3]; exact lm_differs hm e2 sz, ⟨rfl, rfl, by decide, by decide⟩, fun u v hu hv => ⟨_, _, hu, Or.inr ⟨hv, hR'⟩⟩⟩
theorem I_fits {l : Launch} {G : k_G} {hX hM : Nat} {wX wM : va_W} (hI : lw_Inv G hX hM wX wM) : ∃ (r : Int32) (PX PM : va_W → Prop) (rm : Room), (∀ sz, k_Di l G yX11_fits wsX11_fits rm_X11_fits [.ref hX] wX sz r PX 0 0) ∧ (∀ sz, k_Di l G yX13_fits wsX13_fits rm [.ref hM] wM sz r PM 0 0) ∧ lw_rm rm ∧ ∀ u v, PX u → PM v → lw_Inv G hX hM u v := by
  obtain ⟨σ, τ, hx, ⟨hm, hR⟩ | ⟨hm, hR⟩⟩ := hI
  · obtain ⟨o, o', e1, e2, e3, hR'⟩ := s0_fits hR 
    exact ⟨o.1, XW G hX (ux_fits σ o), MW0 G hM (un_fits τ o'), rm_X13_fits_0, fun sz => lx_fits hx e1 sz, fun sz => by rw [e3]; exact ln_fits hm e2 sz, ⟨rfl, rfl, by decide, by decide⟩, fun u v hu hv => ⟨_, _, hu, Or.inl ⟨hv, hR'⟩⟩⟩
  · obtain ⟨o, o', e1, e2, e3, hR'⟩ := s1_fits hR 
    exact ⟨o.1, XW G hX (ux_fits σ o), MW1 G hM (um_fits τ o'), rm_X13_fits, fun sz => lx_fits hx e1 sz, fun sz => by rw [e3]; exact lm_fits hm e2 sz, ⟨rfl, rfl, by decide, by decide⟩, fun u v hu hv => ⟨_, _, hu, Or.inr ⟨hv, hR'⟩⟩⟩
theorem I_fitAt {l : Launch} {G : k_G} {hX hM : Nat} {wX wM : va_W} (hI : lw_Inv G hX hM wX wM) (p1 : Int32) : ∃ (r : Int32) (PX PM : va_W → Prop) (rm : Room), (∀ sz, k_Di l G yX11_fitAt wsX11_fitAt rm_X11_fitAt [.ref hX, .int p1] wX sz r PX 0 0) ∧ (∀ sz, k_Di l G yX13_fitAt wsX13_fitAt rm [.ref hM, .int p1] wM sz r PM 0 0) ∧ lw_rm rm ∧ ∀ u v, PX u → PM v → lw_Inv G hX hM u v := by
  obtain ⟨σ, τ, hx, ⟨hm, hR⟩ | ⟨hm, hR⟩⟩ := hI
  · obtain ⟨o, o', e1, e2, e3, hR'⟩ := s0_fitAt hR p1
    exact ⟨o.1, XW G hX (ux_fitAt σ o), MW0 G hM (un_fitAt τ o'), rm_X13_fitAt_0, fun sz => lx_fitAt hx e1 sz, fun sz => by rw [e3]; exact ln_fitAt hm e2 sz, ⟨rfl, rfl, by decide, by decide⟩, fun u v hu hv => ⟨_, _, hu, Or.inl ⟨hv, hR'⟩⟩⟩
  · obtain ⟨o, o', e1, e2, e3, hR'⟩ := s1_fitAt hR p1
    exact ⟨o.1, XW G hX (ux_fitAt σ o), MW1 G hM (um_fitAt τ o'), rm_X13_fitAt, fun sz => lx_fitAt hx e1 sz, fun sz => by rw [e3]; exact lm_fitAt hm e2 sz, ⟨rfl, rfl, by decide, by decide⟩, fun u v hu hv => ⟨_, _, hu, Or.inr ⟨hv, hR'⟩⟩⟩
theorem I_could {l : Launch} {G : k_G} {hX hM : Nat} {wX wM : va_W} (hI : lw_Inv G hX hM wX wM) : ∃ (r : Int32) (PX PM : va_W → Prop) (rm : Room), (∀ sz, k_Di l G yX11_could wsX11_could rm_X11_could [.ref hX] wX sz r PX 0 0) ∧ (∀ sz, k_Di l G yX13_could wsX13_could rm [.ref hM] wM sz r PM 0 0) ∧ lw_rm rm ∧ ∀ u v, PX u → PM v → lw_Inv G hX hM u v := by
  obtain ⟨σ, τ, hx, ⟨hm, hR⟩ | ⟨hm, hR⟩⟩ := hI
  · obtain ⟨o, o', e1, e2, e3, hR'⟩ := s0_could hR 
    exact ⟨o.1, XW G hX (ux_could σ o), MW0 G hM (un_could τ o'), rm_X13_could_0, fun sz => lx_could hx e1 sz, fun sz => by rw [e3]; exact ln_could hm e2 sz, ⟨rfl, rfl, by decide, by decide⟩, fun u v hu hv => ⟨_, _, hu, Or.inl ⟨hv, hR'⟩⟩⟩
  · obtain ⟨o, o', e1, e2, e3, hR'⟩ := s1_could hR 
    exact ⟨o.1, XW G hX (ux_could σ o), MW1 G hM (um_could τ o'), rm_X13_could, fun sz => lx_could hx e1 sz, fun sz => by rw [e3]; exact lm_could hm e2 sz, ⟨rfl, rfl, by decide, by decide⟩, fun u v hu hv => ⟨_, _, hu, Or.inr ⟨hv, hR'⟩⟩⟩
theorem I_surely {l : Launch} {G : k_G} {hX hM : Nat} {wX wM : va_W} (hI : lw_Inv G hX hM wX wM) : ∃ (r : Int32) (PX PM : va_W → Prop) (rm : Room), (∀ sz, k_Di l G yX11_surely wsX11_surely rm_X11_surely [.ref hX] wX sz r PX 0 0) ∧ (∀ sz, k_Di l G yX13_surely wsX13_surely rm [.ref hM] wM sz r PM 0 0) ∧ lw_rm rm ∧ ∀ u v, PX u → PM v → lw_Inv G hX hM u v := by
  obtain ⟨σ, τ, hx, ⟨hm, hR⟩ | ⟨hm, hR⟩⟩ := hI
  · obtain ⟨o, o', e1, e2, e3, hR'⟩ := s0_surely hR 
    exact ⟨o.1, XW G hX (ux_surely σ o), MW0 G hM (un_surely τ o'), rm_X13_surely_0, fun sz => lx_surely hx e1 sz, fun sz => by rw [e3]; exact ln_surely hm e2 sz, ⟨rfl, rfl, by decide, by decide⟩, fun u v hu hv => ⟨_, _, hu, Or.inl ⟨hv, hR'⟩⟩⟩
  · obtain ⟨o, o', e1, e2, e3, hR'⟩ := s1_surely hR 
    exact ⟨o.1, XW G hX (ux_surely σ o), MW1 G hM (um_surely τ o'), rm_X13_surely, fun sz => lx_surely hx e1 sz, fun sz => by rw [e3]; exact lm_surely hm e2 sz, ⟨rfl, rfl, by decide, by decide⟩, fun u v hu hv => ⟨_, _, hu, Or.inr ⟨hv, hR'⟩⟩⟩
theorem I_ask {l : Launch} {G : k_G} {hX hM : Nat} {wX wM : va_W} (hI : lw_Inv G hX hM wX wM) : ∃ (r : Int32) (PX PM : va_W → Prop) (rm : Room), (∀ sz, k_Di l G yX11_ask wsX11_ask rm_X11_ask [.ref hX] wX sz r PX 0 0) ∧ (∀ sz, k_Di l G yX13_ask wsX13_ask rm [.ref hM] wM sz r PM 0 0) ∧ lw_rm rm ∧ ∀ u v, PX u → PM v → lw_Inv G hX hM u v := by
  obtain ⟨σ, τ, hx, ⟨hm, hR⟩ | ⟨hm, hR⟩⟩ := hI
  · obtain ⟨o, o', e1, e2, e3, hR'⟩ := s0_ask hR 
    exact ⟨o.1, XW G hX (ux_ask σ o), MW0 G hM (un_ask τ o'), rm_X13_ask_0, fun sz => lx_ask hx e1 sz, fun sz => by rw [e3]; exact ln_ask hm e2 sz, ⟨rfl, rfl, by decide, by decide⟩, fun u v hu hv => ⟨_, _, hu, Or.inl ⟨hv, hR'⟩⟩⟩
  · obtain ⟨o, o', e1, e2, e3, hR'⟩ := s1_ask hR 
    exact ⟨o.1, XW G hX (ux_ask σ o), MW1 G hM (um_ask τ o'), rm_X13_ask, fun sz => lx_ask hx e1 sz, fun sz => by rw [e3]; exact lm_ask hm e2 sz, ⟨rfl, rfl, by decide, by decide⟩, fun u v hu hv => ⟨_, _, hu, Or.inr ⟨hv, hR'⟩⟩⟩
theorem I_askLeaves {l : Launch} {G : k_G} {hX hM : Nat} {wX wM : va_W} (hI : lw_Inv G hX hM wX wM) : ∃ (r : Int32) (PX PM : va_W → Prop) (rm : Room), (∀ sz, k_Di l G yX11_askLeaves wsX11_askLeaves rm_X11_askLeaves [.ref hX] wX sz r PX 0 0) ∧ (∀ sz, k_Di l G yX13_askLeaves wsX13_askLeaves rm [.ref hM] wM sz r PM 0 0) ∧ lw_rm rm ∧ ∀ u v, PX u → PM v → lw_Inv G hX hM u v := by
  obtain ⟨σ, τ, hx, ⟨hm, hR⟩ | ⟨hm, hR⟩⟩ := hI
  · obtain ⟨o, o', e1, e2, e3, hR'⟩ := s0_askLeaves hR 
    exact ⟨o.1, XW G hX (ux_askLeaves σ o), MW0 G hM (un_askLeaves τ o'), rm_X13_askLeaves_0, fun sz => lx_askLeaves hx e1 sz, fun sz => by rw [e3]; exact ln_askLeaves hm e2 sz, ⟨rfl, rfl, by decide, by decide⟩, fun u v hu hv => ⟨_, _, hu, Or.inl ⟨hv, hR'⟩⟩⟩
  · obtain ⟨o, o', e1, e2, e3, hR'⟩ := s1_askLeaves hR 
    exact ⟨o.1, XW G hX (ux_askLeaves σ o), MW1 G hM (um_askLeaves τ o'), rm_X13_askLeaves, fun sz => lx_askLeaves hx e1 sz, fun sz => by rw [e3]; exact lm_askLeaves hm e2 sz, ⟨rfl, rfl, by decide, by decide⟩, fun u v hu hv => ⟨_, _, hu, Or.inr ⟨hv, hR'⟩⟩⟩
theorem I_judge {l : Launch} {G : k_G} {hX hM : Nat} {wX wM : va_W} (hI : lw_Inv G hX hM wX wM) : ∃ (r : Int32) (PX PM : va_W → Prop) (rm : Room), (∀ sz, k_Di l G yX11_judge wsX11_judge rm_X11_judge [.ref hX] wX sz r PX 0 0) ∧ (∀ sz, k_Di l G yX13_judge wsX13_judge rm [.ref hM] wM sz r PM 0 0) ∧ lw_rm rm ∧ ∀ u v, PX u → PM v → lw_Inv G hX hM u v := by
  obtain ⟨σ, τ, hx, ⟨hm, hR⟩ | ⟨hm, hR⟩⟩ := hI
  · obtain ⟨o, o', e1, e2, e3, hR'⟩ := s0_judge hR 
    exact ⟨o.1, XW G hX (ux_judge σ o), MW0 G hM (un_judge τ o'), rm_X13_judge_0, fun sz => lx_judge hx e1 sz, fun sz => by rw [e3]; exact ln_judge hm e2 sz, ⟨rfl, rfl, by decide, by decide⟩, fun u v hu hv => ⟨_, _, hu, Or.inl ⟨hv, hR'⟩⟩⟩
  · obtain ⟨o, o', e1, e2, e3, hR'⟩ := s1_judge hR 
    exact ⟨o.1, XW G hX (ux_judge σ o), MW1 G hM (um_judge τ o'), rm_X13_judge, fun sz => lx_judge hx e1 sz, fun sz => by rw [e3]; exact lm_judge hm e2 sz, ⟨rfl, rfl, by decide, by decide⟩, fun u v hu hv => ⟨_, _, hu, Or.inr ⟨hv, hR'⟩⟩⟩
theorem I_odds {l : Launch} {G : k_G} {hX hM : Nat} {wX wM : va_W} (hI : lw_Inv G hX hM wX wM) (p1 p2 p3 : Int32) : ∃ (r : Int64) (PX PM : va_W → Prop) (rm : Room), (∀ sz, k_Dl l G yX11_odds wsX11_odds rm_X11_odds [.ref hX, .int p1, .int p2, .int p3] wX sz r PX 0 0) ∧ (∀ sz, k_Dl l G yX13_odds wsX13_odds rm [.ref hM, .int p1, .int p2, .int p3] wM sz r PM 0 0) ∧ lw_rm rm ∧ ∀ u v, PX u → PM v → lw_Inv G hX hM u v := by
  obtain ⟨σ, τ, hx, ⟨hm, hR⟩ | ⟨hm, hR⟩⟩ := hI
  · obtain ⟨o, o', e1, e2, e3, hR'⟩ := s0_odds hR p1 p2 p3
    exact ⟨o.1, XW G hX (ux_odds σ o), MW0 G hM (un_odds τ o'), rm_X13_odds_0, fun sz => lx_odds hx e1 sz, fun sz => by rw [e3]; exact ln_odds hm e2 sz, ⟨rfl, rfl, by decide, by decide⟩, fun u v hu hv => ⟨_, _, hu, Or.inl ⟨hv, hR'⟩⟩⟩
  · obtain ⟨o, o', e1, e2, e3, hR'⟩ := s1_odds hR p1 p2 p3
    exact ⟨o.1, XW G hX (ux_odds σ o), MW1 G hM (um_odds τ o'), rm_X13_odds, fun sz => lx_odds hx e1 sz, fun sz => by rw [e3]; exact lm_odds hm e2 sz, ⟨rfl, rfl, by decide, by decide⟩, fun u v hu hv => ⟨_, _, hu, Or.inr ⟨hv, hR'⟩⟩⟩
theorem I_rowOdds {l : Launch} {G : k_G} {hX hM : Nat} {wX wM : va_W} (hI : lw_Inv G hX hM wX wM) (p1 p2 : Int32) : ∃ (r : Int64) (PX PM : va_W → Prop) (rm : Room), (∀ sz, k_Dl l G yX11_rowOdds wsX11_rowOdds rm_X11_rowOdds [.ref hX, .int p1, .int p2] wX sz r PX 0 0) ∧ (∀ sz, k_Dl l G yX13_rowOdds wsX13_rowOdds rm [.ref hM, .int p1, .int p2] wM sz r PM 0 0) ∧ lw_rm rm ∧ ∀ u v, PX u → PM v → lw_Inv G hX hM u v := by
  obtain ⟨σ, τ, hx, ⟨hm, hR⟩ | ⟨hm, hR⟩⟩ := hI
  · obtain ⟨o, o', e1, e2, e3, hR'⟩ := s0_rowOdds hR p1 p2
    exact ⟨o.1, XW G hX (ux_rowOdds σ o), MW0 G hM (un_rowOdds τ o'), rm_X13_rowOdds_0, fun sz => lx_rowOdds hx e1 sz, fun sz => by rw [e3]; exact ln_rowOdds hm e2 sz, ⟨rfl, rfl, by decide, by decide⟩, fun u v hu hv => ⟨_, _, hu, Or.inl ⟨hv, hR'⟩⟩⟩
  · obtain ⟨o, o', e1, e2, e3, hR'⟩ := s1_rowOdds hR p1 p2
    exact ⟨o.1, XW G hX (ux_rowOdds σ o), MW1 G hM (um_rowOdds τ o'), rm_X13_rowOdds, fun sz => lx_rowOdds hx e1 sz, fun sz => by rw [e3]; exact lm_rowOdds hm e2 sz, ⟨rfl, rfl, by decide, by decide⟩, fun u v hu hv => ⟨_, _, hu, Or.inr ⟨hv, hR'⟩⟩⟩
theorem I_meanSum {l : Launch} {G : k_G} {hX hM : Nat} {wX wM : va_W} (hI : lw_Inv G hX hM wX wM) (p1 p2 : Int32) : ∃ (r : Int64) (PX PM : va_W → Prop) (rm : Room), (∀ sz, k_Dl l G yX11_meanSum wsX11_meanSum rm_X11_meanSum [.ref hX, .int p1, .int p2] wX sz r PX 0 0) ∧ (∀ sz, k_Dl l G yX13_meanSum wsX13_meanSum rm [.ref hM, .int p1, .int p2] wM sz r PM 0 0) ∧ lw_rm rm ∧ ∀ u v, PX u → PM v → lw_Inv G hX hM u v := by
  obtain ⟨σ, τ, hx, ⟨hm, hR⟩ | ⟨hm, hR⟩⟩ := hI
  · obtain ⟨o, o', e1, e2, e3, hR'⟩ := s0_meanSum hR p1 p2
    exact ⟨o.1, XW G hX (ux_meanSum σ o), MW0 G hM (un_meanSum τ o'), rm_X13_meanSum_0, fun sz => lx_meanSum hx e1 sz, fun sz => by rw [e3]; exact ln_meanSum hm e2 sz, ⟨rfl, rfl, by decide, by decide⟩, fun u v hu hv => ⟨_, _, hu, Or.inl ⟨hv, hR'⟩⟩⟩
  · obtain ⟨o, o', e1, e2, e3, hR'⟩ := s1_meanSum hR p1 p2
    exact ⟨o.1, XW G hX (ux_meanSum σ o), MW1 G hM (um_meanSum τ o'), rm_X13_meanSum, fun sz => lx_meanSum hx e1 sz, fun sz => by rw [e3]; exact lm_meanSum hm e2 sz, ⟨rfl, rfl, by decide, by decide⟩, fun u v hu hv => ⟨_, _, hu, Or.inr ⟨hv, hR'⟩⟩⟩
theorem I_grown {l : Launch} {G : k_G} {hX hM : Nat} {wX wM : va_W} (hI : lw_Inv G hX hM wX wM) (p1 p2 : Int32) : ∃ (r : Int32) (PX PM : va_W → Prop) (rm : Room), (∀ sz, k_Di l G yX11_grown wsX11_grown rm_X11_grown [.ref hX, .int p1, .int p2] wX sz r PX 0 0) ∧ (∀ sz, k_Di l G yX13_grown wsX13_grown rm [.ref hM, .int p1, .int p2] wM sz r PM 0 0) ∧ lw_rm rm ∧ ∀ u v, PX u → PM v → lw_Inv G hX hM u v := by
  obtain ⟨σ, τ, hx, ⟨hm, hR⟩ | ⟨hm, hR⟩⟩ := hI
  · obtain ⟨o, o', e1, e2, e3, hR'⟩ := s0_grown hR p1 p2
    exact ⟨o.1, XW G hX (ux_grown σ o), MW0 G hM (un_grown τ o'), rm_X13_grown_0, fun sz => lx_grown hx e1 sz, fun sz => by rw [e3]; exact ln_grown hm e2 sz, ⟨rfl, rfl, by decide, by decide⟩, fun u v hu hv => ⟨_, _, hu, Or.inl ⟨hv, hR'⟩⟩⟩
  · obtain ⟨o, o', e1, e2, e3, hR'⟩ := s1_grown hR p1 p2
    exact ⟨o.1, XW G hX (ux_grown σ o), MW1 G hM (um_grown τ o'), rm_X13_grown, fun sz => lx_grown hx e1 sz, fun sz => by rw [e3]; exact lm_grown hm e2 sz, ⟨rfl, rfl, by decide, by decide⟩, fun u v hu hv => ⟨_, _, hu, Or.inr ⟨hv, hR'⟩⟩⟩
theorem I_longestRun {l : Launch} {G : k_G} {hX hM : Nat} {wX wM : va_W} (hI : lw_Inv G hX hM wX wM) (p1 p2 : Int32) : ∃ (r : Int32) (PX PM : va_W → Prop) (rm : Room), (∀ sz, k_Di l G yX11_longestRun wsX11_longestRun rm_X11_longestRun [.ref hX, .int p1, .int p2] wX sz r PX 0 0) ∧ (∀ sz, k_Di l G yX13_longestRun wsX13_longestRun rm [.ref hM, .int p1, .int p2] wM sz r PM 0 0) ∧ lw_rm rm ∧ ∀ u v, PX u → PM v → lw_Inv G hX hM u v := by
  obtain ⟨σ, τ, hx, ⟨hm, hR⟩ | ⟨hm, hR⟩⟩ := hI
  · obtain ⟨o, o', e1, e2, e3, hR'⟩ := s0_longestRun hR p1 p2
    exact ⟨o.1, XW G hX (ux_longestRun σ o), MW0 G hM (un_longestRun τ o'), rm_X13_longestRun_0, fun sz => lx_longestRun hx e1 sz, fun sz => by rw [e3]; exact ln_longestRun hm e2 sz, ⟨rfl, rfl, by decide, by decide⟩, fun u v hu hv => ⟨_, _, hu, Or.inl ⟨hv, hR'⟩⟩⟩
  · obtain ⟨o, o', e1, e2, e3, hR'⟩ := s1_longestRun hR p1 p2
    exact ⟨o.1, XW G hX (ux_longestRun σ o), MW1 G hM (um_longestRun τ o'), rm_X13_longestRun, fun sz => lx_longestRun hx e1 sz, fun sz => by rw [e3]; exact lm_longestRun hm e2 sz, ⟨rfl, rfl, by decide, by decide⟩, fun u v hu hv => ⟨_, _, hu, Or.inr ⟨hv, hR'⟩⟩⟩
theorem I_slip {l : Launch} {G : k_G} {hX hM : Nat} {wX wM : va_W} (hI : lw_Inv G hX hM wX wM) (p1 p2 : Int32) : ∃ (r : Int32) (PX PM : va_W → Prop) (rm : Room), (∀ sz, k_Di l G yX11_slip wsX11_slip rm_X11_slip [.ref hX, .int p1, .int p2] wX sz r PX 0 0) ∧ (∀ sz, k_Di l G yX13_slip wsX13_slip rm [.ref hM, .int p1, .int p2] wM sz r PM 0 0) ∧ lw_rm rm ∧ ∀ u v, PX u → PM v → lw_Inv G hX hM u v := by
  obtain ⟨σ, τ, hx, ⟨hm, hR⟩ | ⟨hm, hR⟩⟩ := hI
  · obtain ⟨o, o', e1, e2, e3, hR'⟩ := s0_slip hR p1 p2
    exact ⟨o.1, XW G hX (ux_slip σ o), MW0 G hM (un_slip τ o'), rm_X13_slip_0, fun sz => lx_slip hx e1 sz, fun sz => by rw [e3]; exact ln_slip hm e2 sz, ⟨rfl, rfl, by decide, by decide⟩, fun u v hu hv => ⟨_, _, hu, Or.inl ⟨hv, hR'⟩⟩⟩
  · obtain ⟨o, o', e1, e2, e3, hR'⟩ := s1_slip hR p1 p2
    exact ⟨o.1, XW G hX (ux_slip σ o), MW1 G hM (um_slip τ o'), rm_X13_slip, fun sz => lx_slip hx e1 sz, fun sz => by rw [e3]; exact lm_slip hm e2 sz, ⟨rfl, rfl, by decide, by decide⟩, fun u v hu hv => ⟨_, _, hu, Or.inr ⟨hv, hR'⟩⟩⟩
theorem I_turn {l : Launch} {G : k_G} {hX hM : Nat} {wX wM : va_W} (hI : lw_Inv G hX hM wX wM) (p1 : Int32) : ∃ (r : Int32) (PX PM : va_W → Prop) (rm : Room), (∀ sz, k_Di l G yX11_turn wsX11_turn rm_X11_turn [.ref hX, .int p1] wX sz r PX 0 0) ∧ (∀ sz, k_Di l G yX13_turn wsX13_turn rm [.ref hM, .int p1] wM sz r PM 0 0) ∧ lw_rm rm ∧ ∀ u v, PX u → PM v → lw_Inv G hX hM u v := by
  obtain ⟨σ, τ, hx, ⟨hm, hR⟩ | ⟨hm, hR⟩⟩ := hI
  · obtain ⟨o, o', e1, e2, e3, hR'⟩ := s0_turn hR p1
    exact ⟨o.1, XW G hX (ux_turn σ o), MW0 G hM (un_turn τ o'), rm_X13_turn_0, fun sz => lx_turn hx e1 sz, fun sz => by rw [e3]; exact ln_turn hm e2 sz, ⟨rfl, rfl, by decide, by decide⟩, fun u v hu hv => ⟨_, _, hu, Or.inl ⟨hv, hR'⟩⟩⟩
  · obtain ⟨o, o', e1, e2, e3, hR'⟩ := s1_turn hR p1
    exact ⟨o.1, XW G hX (ux_turn σ o), MW1 G hM (um_turn τ o'), rm_X13_turn, fun sz => lx_turn hx e1 sz, fun sz => by rw [e3]; exact lm_turn hm e2 sz, ⟨rfl, rfl, by decide, by decide⟩, fun u v hu hv => ⟨_, _, hu, Or.inr ⟨hv, hR'⟩⟩⟩
theorem I_twin {l : Launch} {G : k_G} {hX hM : Nat} {wX wM : va_W} (hI : lw_Inv G hX hM wX wM) (p1 : Int32) : ∃ (r : Int32) (PX PM : va_W → Prop) (rm : Room), (∀ sz, k_Di l G yX11_twin wsX11_twin rm_X11_twin [.ref hX, .int p1] wX sz r PX 0 0) ∧ (∀ sz, k_Di l G yX13_twin wsX13_twin rm [.ref hM, .int p1] wM sz r PM 0 0) ∧ lw_rm rm ∧ ∀ u v, PX u → PM v → lw_Inv G hX hM u v := by
  obtain ⟨σ, τ, hx, ⟨hm, hR⟩ | ⟨hm, hR⟩⟩ := hI
  · obtain ⟨o, o', e1, e2, e3, hR'⟩ := s0_twin hR p1
    exact ⟨o.1, XW G hX (ux_twin σ o), MW0 G hM (un_twin τ o'), rm_X13_twin_0, fun sz => lx_twin hx e1 sz, fun sz => by rw [e3]; exact ln_twin hm e2 sz, ⟨rfl, rfl, by decide, by decide⟩, fun u v hu hv => ⟨_, _, hu, Or.inl ⟨hv, hR'⟩⟩⟩
  · obtain ⟨o, o', e1, e2, e3, hR'⟩ := s1_twin hR p1
    exact ⟨o.1, XW G hX (ux_twin σ o), MW1 G hM (um_twin τ o'), rm_X13_twin, fun sz => lx_twin hx e1 sz, fun sz => by rw [e3]; exact lm_twin hm e2 sz, ⟨rfl, rfl, by decide, by decide⟩, fun u v hu hv => ⟨_, _, hu, Or.inr ⟨hv, hR'⟩⟩⟩
theorem I_grow {l : Launch} {G : k_G} {hX hM : Nat} {wX wM : va_W} (hI : lw_Inv G hX hM wX wM) (p1 p2 : Int32) : ∃ (r : Int32) (PX PM : va_W → Prop) (rm : Room), (∀ sz, k_Di l G yX11_grow wsX11_grow rm_X11_grow [.ref hX, .int p1, .int p2] wX sz r PX 0 0) ∧ (∀ sz, k_Di l G yX13_grow wsX13_grow rm [.ref hM, .int p1, .int p2] wM sz r PM 0 0) ∧ lw_rm rm ∧ ∀ u v, PX u → PM v → lw_Inv G hX hM u v := by
  obtain ⟨σ, τ, hx, ⟨hm, hR⟩ | ⟨hm, hR⟩⟩ := hI
  · obtain ⟨o, o', e1, e2, e3, hR'⟩ := s0_grow hR p1 p2
    exact ⟨o.1, XW G hX (ux_grow σ o), MW0 G hM (un_grow τ o'), rm_X13_grow_0, fun sz => lx_grow hx e1 sz, fun sz => by rw [e3]; exact ln_grow hm e2 sz, ⟨rfl, rfl, by decide, by decide⟩, fun u v hu hv => ⟨_, _, hu, Or.inl ⟨hv, hR'⟩⟩⟩
  · obtain ⟨o, o', e1, e2, e3, hR'⟩ := s1_grow hR p1 p2
    exact ⟨o.1, XW G hX (ux_grow σ o), MW1 G hM (um_grow τ o'), rm_X13_grow, fun sz => lx_grow hx e1 sz, fun sz => by rw [e3]; exact lm_grow hm e2 sz, ⟨rfl, rfl, by decide, by decide⟩, fun u v hu hv => ⟨_, _, hu, Or.inr ⟨hv, hR'⟩⟩⟩
theorem I_cut {l : Launch} {G : k_G} {hX hM : Nat} {wX wM : va_W} (hI : lw_Inv G hX hM wX wM) (p1 : Int32) : ∃ (r : Int32) (PX PM : va_W → Prop) (rm : Room), (∀ sz, k_Di l G yX11_cut wsX11_cut rm_X11_cut [.ref hX, .int p1] wX sz r PX 0 0) ∧ (∀ sz, k_Di l G yX13_cut wsX13_cut rm [.ref hM, .int p1] wM sz r PM 0 0) ∧ lw_rm rm ∧ ∀ u v, PX u → PM v → lw_Inv G hX hM u v := by
  obtain ⟨σ, τ, hx, ⟨hm, hR⟩ | ⟨hm, hR⟩⟩ := hI
  · obtain ⟨o, o', e1, e2, e3, hR'⟩ := s0_cut hR p1
    exact ⟨o.1, XW G hX (ux_cut σ o), MW0 G hM (un_cut τ o'), rm_X13_cut_0, fun sz => lx_cut hx e1 sz, fun sz => by rw [e3]; exact ln_cut hm e2 sz, ⟨rfl, rfl, by decide, by decide⟩, fun u v hu hv => ⟨_, _, hu, Or.inl ⟨hv, hR'⟩⟩⟩
  · obtain ⟨o, o', e1, e2, e3, hR'⟩ := s1_cut hR p1
    exact ⟨o.1, XW G hX (ux_cut σ o), MW1 G hM (um_cut τ o'), rm_X13_cut, fun sz => lx_cut hx e1 sz, fun sz => by rw [e3]; exact lm_cut hm e2 sz, ⟨rfl, rfl, by decide, by decide⟩, fun u v hu hv => ⟨_, _, hu, Or.inr ⟨hv, hR'⟩⟩⟩
theorem I_undo {l : Launch} {G : k_G} {hX hM : Nat} {wX wM : va_W} (hI : lw_Inv G hX hM wX wM) : ∃ (r : Int32) (PX PM : va_W → Prop) (rm : Room), (∀ sz, k_Di l G yX11_undo wsX11_undo rm_X11_undo [.ref hX] wX sz r PX 0 0) ∧ (∀ sz, k_Di l G yX13_undo wsX13_undo rm [.ref hM] wM sz r PM 0 0) ∧ lw_rm rm ∧ ∀ u v, PX u → PM v → lw_Inv G hX hM u v := by
  obtain ⟨σ, τ, hx, ⟨hm, hR⟩ | ⟨hm, hR⟩⟩ := hI
  · obtain ⟨o, o', e1, e2, e3, hR'⟩ := s0_undo hR 
    exact ⟨o.1, XW G hX (ux_undo σ o), MW0 G hM (un_undo τ o'), rm_X13_undo_0, fun sz => lx_undo hx e1 sz, fun sz => by rw [e3]; exact ln_undo hm e2 sz, ⟨rfl, rfl, by decide, by decide⟩, fun u v hu hv => ⟨_, _, hu, Or.inl ⟨hv, hR'⟩⟩⟩
  · obtain ⟨o, o', e1, e2, e3, hR'⟩ := s1_undo hR 
    exact ⟨o.1, XW G hX (ux_undo σ o), MW1 G hM (um_undo τ o'), rm_X13_undo, fun sz => lx_undo hx e1 sz, fun sz => by rw [e3]; exact lm_undo hm e2 sz, ⟨rfl, rfl, by decide, by decide⟩, fun u v hu hv => ⟨_, _, hu, Or.inr ⟨hv, hR'⟩⟩⟩
theorem I_image {l : Launch} {G : k_G} {hX hM : Nat} {wX wM : va_W} (hI : lw_Inv G hX hM wX wM) : ∃ (r : Int32) (PX PM : va_W → Prop) (rm : Room), (∀ sz, k_Di l G yX11_image wsX11_image rm_X11_image [.ref hX] wX sz r PX 0 0) ∧ (∀ sz, k_Di l G yX13_image wsX13_image rm [.ref hM] wM sz r PM 0 0) ∧ lw_rm rm ∧ ∀ u v, PX u → PM v → lw_Inv G hX hM u v := by
  obtain ⟨σ, τ, hx, ⟨hm, hR⟩ | ⟨hm, hR⟩⟩ := hI
  · obtain ⟨o, o', e1, e2, e3, hR'⟩ := s0_image hR 
    exact ⟨o.1, XW G hX (ux_image σ o), MW0 G hM (un_image τ o'), rm_X13_image_0, fun sz => lx_image hx e1 sz, fun sz => by rw [e3]; exact ln_image hm e2 sz, ⟨rfl, rfl, by decide, by decide⟩, fun u v hu hv => ⟨_, _, hu, Or.inl ⟨hv, hR'⟩⟩⟩
  · obtain ⟨o, o', e1, e2, e3, hR'⟩ := s1_image hR 
    exact ⟨o.1, XW G hX (ux_image σ o), MW1 G hM (um_image τ o'), rm_X13_image, fun sz => lx_image hx e1 sz, fun sz => by rw [e3]; exact lm_image hm e2 sz, ⟨rfl, rfl, by decide, by decide⟩, fun u v hu hv => ⟨_, _, hu, Or.inr ⟨hv, hR'⟩⟩⟩
theorem I_back {l : Launch} {G : k_G} {hX hM : Nat} {wX wM : va_W} (hI : lw_Inv G hX hM wX wM) (p1 : Int32) : ∃ (r : Int32) (PX PM : va_W → Prop) (rm : Room), (∀ sz, k_Di l G yX11_back wsX11_back rm_X11_back [.ref hX, .int p1] wX sz r PX 0 0) ∧ (∀ sz, k_Di l G yX13_back wsX13_back rm [.ref hM, .int p1] wM sz r PM 0 0) ∧ lw_rm rm ∧ ∀ u v, PX u → PM v → lw_Inv G hX hM u v := by
  obtain ⟨σ, τ, hx, ⟨hm, hR⟩ | ⟨hm, hR⟩⟩ := hI
  · obtain ⟨o, o', e1, e2, e3, hR'⟩ := s0_back hR p1
    exact ⟨o.1, XW G hX (ux_back σ o), MW0 G hM (un_back τ o'), rm_X13_back_0, fun sz => lx_back hx e1 sz, fun sz => by rw [e3]; exact ln_back hm e2 sz, ⟨rfl, rfl, by decide, by decide⟩, fun u v hu hv => ⟨_, _, hu, Or.inl ⟨hv, hR'⟩⟩⟩
  · obtain ⟨o, o', e1, e2, e3, hR'⟩ := s1_back hR p1
    exact ⟨o.1, XW G hX (ux_back σ o), MW1 G hM (um_back τ o'), rm_X13_back, fun sz => lx_back hx e1 sz, fun sz => by rw [e3]; exact lm_back hm e2 sz, ⟨rfl, rfl, by decide, by decide⟩, fun u v hu hv => ⟨_, _, hu, Or.inr ⟨hv, hR'⟩⟩⟩
theorem I_size {l : Launch} {G : k_G} {hX hM : Nat} {wX wM : va_W} (hI : lw_Inv G hX hM wX wM) (p1 : Int32) : ∃ (r : Int32) (PX PM : va_W → Prop) (rm : Room), (∀ sz, k_Di l G yX11_size wsX11_size rm_X11_size [.ref hX, .int p1] wX sz r PX 0 0) ∧ (∀ sz, k_Di l G yX13_size wsX13_size rm [.ref hM, .int p1] wM sz r PM 0 0) ∧ lw_rm rm ∧ ∀ u v, PX u → PM v → lw_Inv G hX hM u v := by
  obtain ⟨σ, τ, hx, ⟨hm, hR⟩ | ⟨hm, hR⟩⟩ := hI
  · obtain ⟨o, o', e1, e2, e3, hR'⟩ := s0_size hR p1
    exact ⟨o, XW G hX (ux_size σ o), MW0 G hM (un_size τ o'), rm_X13_size_0, fun sz => lx_size hx e1 sz, fun sz => by rw [e3]; exact ln_size hm e2 sz, ⟨rfl, rfl, by decide, by decide⟩, fun u v hu hv => ⟨_, _, hu, Or.inl ⟨hv, hR'⟩⟩⟩
  · obtain ⟨o, o', e1, e2, e3, hR'⟩ := s1_size hR p1
    exact ⟨o, XW G hX (ux_size σ o), MW1 G hM (um_size τ o'), rm_X13_size, fun sz => lx_size hx e1 sz, fun sz => by rw [e3]; exact lm_size hm e2 sz, ⟨rfl, rfl, by decide, by decide⟩, fun u v hu hv => ⟨_, _, hu, Or.inr ⟨hv, hR'⟩⟩⟩
theorem I_trouble {l : Launch} {G : k_G} {hX hM : Nat} {wX wM : va_W} (hI : lw_Inv G hX hM wX wM) : ∃ (r : Int32) (PX PM : va_W → Prop) (rm : Room), (∀ sz, k_Di l G yX11_trouble wsX11_trouble rm_X11_trouble [.ref hX] wX sz r PX 0 0) ∧ (∀ sz, k_Di l G yX13_trouble wsX13_trouble rm [.ref hM] wM sz r PM 0 0) ∧ lw_rm rm ∧ ∀ u v, PX u → PM v → lw_Inv G hX hM u v := by
  obtain ⟨σ, τ, hx, ⟨hm, hR⟩ | ⟨hm, hR⟩⟩ := hI
  · obtain ⟨o, o', e1, e2, e3, hR'⟩ := s0_trouble hR 
    exact ⟨o, XW G hX (ux_trouble σ o), MW0 G hM (un_trouble τ o'), rm_X13_trouble, fun sz => lx_trouble hx e1 sz, fun sz => by rw [e3]; exact ln_trouble hm e2 sz, ⟨rfl, rfl, by decide, by decide⟩, fun u v hu hv => ⟨_, _, hu, Or.inl ⟨hv, hR'⟩⟩⟩
  · obtain ⟨o, o', e1, e2, e3, hR'⟩ := s1_trouble hR 
    exact ⟨o, XW G hX (ux_trouble σ o), MW1 G hM (um_trouble τ o'), rm_X13_trouble, fun sz => lx_trouble hx e1 sz, fun sz => by rw [e3]; exact lm_trouble hm e2 sz, ⟨rfl, rfl, by decide, by decide⟩, fun u v hu hv => ⟨_, _, hu, Or.inr ⟨hv, hR'⟩⟩⟩
