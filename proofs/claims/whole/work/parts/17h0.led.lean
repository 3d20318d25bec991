/-! THE LAW: lab, and led, which may throw -/
theorem I_lab {l : Launch} {G : k_G} {hX hM : Nat} {wX wM : va_W} (hI : lw_Inv G hX hM wX wM) (p1 : Int32) : ∃ (r : Int32) (PX PM : va_W → Prop), (∀ sz, k_Di l G yX11_lab wsX11_lab rm_X11_lab_w0 [.ref hX, .int p1] wX sz r PX 0 0) ∧ (∀ sz, k_Di l G yX13_lab wsX13_lab rm_X13_lab_w0 [.ref hM, .int p1] wM sz r PM 9 57) ∧ ∀ u v, PX u → PM v → lw_Inv G hX hM u v := by
  obtain ⟨σ, τ, hx, ⟨hm, hR⟩ | ⟨hm, hR⟩⟩ := hI
  · obtain ⟨o, o', e1, e2, e3, ⟨t, t', hR'⟩ | ⟨t, t', hR'⟩ | ⟨t, t', hR'⟩⟩ := s0_lab hR p1
    · exact ⟨o.1, XW G hX (ux_lab0 σ o), MW0 G hM (um_lab0 τ o'), fun sz => lx_lab0 hx e1 t sz, fun sz => by rw [e3]; exact ln_lab0 hm e2 t' sz, fun u v hu hv => ⟨_, _, hu, Or.inl ⟨hv, hR'⟩⟩⟩
    · exact ⟨o.1, XW G hX (ux_lab1 σ o), MW0 G hM (um_lab1 τ o'), fun sz => lx_lab1 hx e1 t sz, fun sz => by rw [e3]; exact ln_lab1 hm e2 t' sz, fun u v hu hv => ⟨_, _, hu, Or.inl ⟨hv, hR'⟩⟩⟩
    · exact ⟨o.1, XW G hX (ux_lab2 σ o), MW1 G hM (um_lab2 τ o'), fun sz => lx_lab2 hx e1 t sz, fun sz => by rw [e3]; exact ln_lab2 hm e2 t' sz, fun u v hu hv => ⟨_, _, hu, Or.inr ⟨hv, hR'⟩⟩⟩
  · obtain ⟨o, o', e1, e2, e3, ⟨t, t', hR'⟩ | ⟨t, t', hR'⟩ | ⟨t, t', hR'⟩⟩ := s1_lab hR p1
    · exact ⟨o.1, XW G hX (ux_lab0 σ o), MW1 G hM (um_lab0 τ o'), fun sz => lx_lab0 hx e1 t sz, fun sz => by rw [e3]; exact lm_lab0 hm e2 t' sz, fun u v hu hv => ⟨_, _, hu, Or.inr ⟨hv, hR'⟩⟩⟩
    · exact ⟨o.1, XW G hX (ux_lab1 σ o), MW1 G hM (um_lab1 τ o'), fun sz => lx_lab1 hx e1 t sz, fun sz => by rw [e3]; exact lm_lab1 hm e2 t' sz, fun u v hu hv => ⟨_, _, hu, Or.inr ⟨hv, hR'⟩⟩⟩
    · exact ⟨o.1, XW G hX (ux_lab2 σ o), MW1 G hM (um_lab2 τ o'), fun sz => lx_lab2 hx e1 t sz, fun sz => by rw [e3]; exact lm_lab2 hm e2 t' sz, fun u v hu hv => ⟨_, _, hu, Or.inr ⟨hv, hR'⟩⟩⟩
theorem I_led {l : Launch} {G : k_G} {hX hM : Nat} {wX wM : va_W} (hI : lw_Inv G hX hM wX wM) (p1 : Int32) : ∃ (σ : k_SB) (o r t : Int32) (PM : va_W → Prop) (rm : Room), XW G hX σ wX ∧ fx_led p1 σ = some o ∧ (∀ sz, k_Di l G yX13_led wsX13_led rm [.ref hM, .int p1] wM sz r PM 0 0) ∧ lw_rm rm ∧
    (∀ v, PM v → ∃ PT : va_W → Prop, (∃ fs : List Value, v[0]? = some (hM, .inr (10, fs))) ∧ (∀ sz, k_Di l G yX13_thrown wsX13_thrown rm_X13_thrown [.ref hM] v sz t PT 0 0) ∧ ∀ u v', XW G hX σ u → PT v' → lw_Inv G hX hM u v') ∧ ((o ≠ -1 ∧ r = o ∧ t = 0) ∨ (o = -1 ∧ t = 1)) := by
  obtain ⟨σ, τ, hx, ⟨hm, hR⟩ | ⟨hm, hR⟩⟩ := hI
  · obtain ⟨e1, e2, hR'⟩ := s0_led hR p1
    exact ⟨σ, -1, 0, 1, MW0 G hM (un_led τ (0, 1)), rm_X13_led_0, hx, e1, fun sz => ln_led hm e2 sz, ⟨rfl, rfl, by decide, by decide⟩, fun v hv => ⟨MW0 G hM (un_led τ (0, 1)), lw_m00 hv, fun sz => ln_thrown hv (o := 1) rfl sz, fun u v' hu hv' => ⟨_, _, hu, Or.inl ⟨hv', hR'⟩⟩⟩, Or.inr ⟨rfl, rfl⟩⟩
  · obtain ⟨k, hk, e1, e2, hR'⟩ | ⟨e1, e2, hR'⟩ := s1_led hR p1
    · have hne : nI k ≠ -1 := by
        intro h
        have h1 := congrArg Int32.toInt h
        rw [nI_toInt (show k < 2 ^ 31 by omega)] at h1
        have h2 : (-1 : Int32).toInt = -1 := by decide
        omega
      exact ⟨σ, nI k, nI k, 0, MW1 G hM (um_led τ (nI k, 0)), rm_X13_led, hx, e1, fun sz => lm_led hm e2 sz, ⟨rfl, rfl, by decide, by decide⟩, fun v hv => ⟨MW1 G hM (um_led τ (nI k, 0)), lw_m01 hv, fun sz => lm_thrown hv (o := 0) rfl sz, fun u v' hu hv' => ⟨_, _, hu, Or.inr ⟨hv', hR'⟩⟩⟩, Or.inl ⟨hne, rfl, rfl⟩⟩
    · exact ⟨σ, -1, 0, 1, MW1 G hM (um_led τ (0, 1)), rm_X13_led, hx, e1, fun sz => lm_led hm e2 sz, ⟨rfl, rfl, by decide, by decide⟩, fun v hv => ⟨MW1 G hM (um_led τ (0, 1)), lw_m01 hv, fun sz => lm_thrown hv (o := 1) rfl sz, fun u v' hu hv' => ⟨_, _, hu, Or.inr ⟨hv', hR'⟩⟩⟩, Or.inr ⟨rfl, rfl⟩⟩
