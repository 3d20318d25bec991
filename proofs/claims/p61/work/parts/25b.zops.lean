/-! THE STATE while the law asks: the told lab, one image, the stacks now; each call keeps it and answers so -/
def JJ (c g ua ga A : Nat) (a1 a2 a3 : Int32) (N R N0 R0 : Nat → Nat) (σ : k_SB) : Prop :=
  (σ.1 29 = 1 ∧ σ.1 30 = a1 ∧ σ.1 31 = a2 ∧ σ.1 32 = a3 ∧ σ.1 33 = nI g ∧ σ.1 34 = nI ua ∧ σ.1 35 = nI ga ∧ TL c ua ga N0 R0 (σ.2.2.1 23) (σ.2.2.1 24) (σ.2.2.1 26) (σ.2.2.1 25) (σ.2.2.1 22) (σ.2.2.1 20) (σ.2.2.1 21)) ∧
  (σ.1 12 = 1 ∧ ∀ s, s < c → σ.2.2.1 10 s = nI (N0 s) ∧ σ.2.2.1 11 s = nI (R0 s)) ∧
  (σ.1 19 = nI c ∧ σ.1 3 = nI A ∧ SVx c N R (σ.2.2.1 17) (σ.2.2.1 18))
/-- what does not change over a script -/
def JC (c g : Nat) (a1 a2 a3 : Int32) : Prop := 1 ≤ c ∧ c ≤ 2 ∧ g ≤ 100 ∧ ib a1 99 ∧ ib a2 99 ∧ ib a3 99
abbrev ZF (ua ga B : Nat) (σ : k_SB) : Prop := f_X1_of (nI ga) (nI ua) (σ.2.2.1 20) (σ.2.2.1 21) (σ.2.2.1 22) (σ.2.2.1 23) (σ.2.2.1 24) (σ.2.2.1 25) (σ.2.2.1 26) = some (nI (mk (FB B) (2 ^ ua)))
section ZOP
variable {c g ua ga A : Nat} {a1 a2 a3 : Int32} {N R N0 R0 : Nat → Nat} {σ : k_SB}
theorem r2_half {n r : Nat} (hn : 2 < n) (h : r < 2 ^ n) : r / 2 < 2 ^ (n - 1) := by
  have e : 2 ^ n = 2 ^ (n - 1) * 2 := by rw [← Nat.pow_succ, Nat.succ_eq_add_one, Nat.sub_add_cancel (by omega)]
  omega
theorem bdz {α β : Type} {x : Option α} {k : α → Option β} {r : Option β} {P : α → Prop} (h : ∃ o, x = some o ∧ P o) (kk : ∀ o, P o → k o = r) : bd x k = r := by
  obtain ⟨o, e, p⟩ := h
  rw [e, bd_s]; exact kk o p
theorem bz {α β : Type} {x : Option (α × β)} {u : α × β → k_SB} {k : α × β → k_SB → Option Int32} {r : Option Int32} {v : α} {J : k_SB → Prop} (h : ∃ o, x = some o ∧ o.1 = v ∧ J (u o)) (kk : ∀ o σ, o.1 = v → J σ → k o σ = r) : bd x (fun o => lt (u o) (fun σ => k o σ)) = r := by
  obtain ⟨o, e, p, q⟩ := h
  rw [e, bd_s, lt_q]; exact kk o _ p q
theorem ltz {α β : Type} {e : α} {k : α → Option β} {r : Option β} {P : α → Prop} (h : P e) (kk : ∀ x, P x → k x = r) : lt e k = r := (lt_q e k).trans (kk e h)
theorem ifp {β : Type} {C : Prop} [Decidable C] {x y r : Option β} (h : C) (k : x = r) : (if C then x else y) = r := by rw [if_pos h]; exact k
theorem ifn {β : Type} {C : Prop} [Decidable C] {x y r : Option β} (h : ¬ C) (k : y = r) : (if C then x else y) = r := by rw [if_neg h]; exact k
theorem gdz {β : Type} {C : Prop} [Decidable C] {x r : Option β} (h : C) (k : x = r) : gd C x = r := by rw [gd_t _ h]; exact k
theorem z_st0 (hC : JC c g a1 a2 a3) (hJ : JJ c g ua ga A a1 a2 a3 N R N0 R0 σ) {s : Nat} (hs : s < c) : ∃ o, fx_stack (nI s) (0 : Int32) σ = some o ∧ o.1 = nI (N s) ∧ JJ c g ua ga A a1 a2 a3 N R N0 R0 (ux_stack σ o) := by
  obtain ⟨⟨t1, t2, t3, t4, t5, t6, t7, hT⟩, ⟨i1, i2⟩, n1, n2, hN⟩ := hJ
  have e : fx_stack (nI s) (0 : Int32) σ = some (nI (N s), 0) := by
    show f_X11_stack (nI s) (0 : Int32) (σ.1 0) (σ.1 19) (σ.2.2.1 17) (σ.2.2.1 18) = _
    rw [n1]
    exact v_st0 hN hs _
  exact ⟨_, e, rfl, ⟨t1, t2, t3, t4, t5, t6, t7, hT⟩, ⟨i1, i2⟩, n1, n2, hN⟩
theorem z_st1 (hC : JC c g a1 a2 a3) (hJ : JJ c g ua ga A a1 a2 a3 N R N0 R0 σ) {s : Nat} (hs : s < c) : ∃ o, fx_stack (nI s) (1 : Int32) σ = some o ∧ o.1 = nI (R s) ∧ JJ c g ua ga A a1 a2 a3 N R N0 R0 (ux_stack σ o) := by
  obtain ⟨⟨t1, t2, t3, t4, t5, t6, t7, hT⟩, ⟨i1, i2⟩, n1, n2, hN⟩ := hJ
  have e : fx_stack (nI s) (1 : Int32) σ = some (nI (R s), 0) := by
    show f_X11_stack (nI s) (1 : Int32) (σ.1 0) (σ.1 19) (σ.2.2.1 17) (σ.2.2.1 18) = _
    rw [n1]
    exact v_st1 hN hs _
  exact ⟨_, e, rfl, ⟨t1, t2, t3, t4, t5, t6, t7, hT⟩, ⟨i1, i2⟩, n1, n2, hN⟩
theorem z_st2 (hC : JC c g a1 a2 a3) (hJ : JJ c g ua ga A a1 a2 a3 N R N0 R0 σ) {s : Nat} (hs : s < c) : ∃ o, fx_stack (nI s) (2 : Int32) σ = some o ∧ o.1 = nI (rRep (N s) (R s)) ∧ JJ c g ua ga A a1 a2 a3 N R N0 R0 (ux_stack σ o) := by
  obtain ⟨⟨t1, t2, t3, t4, t5, t6, t7, hT⟩, ⟨i1, i2⟩, n1, n2, hN⟩ := hJ
  have e : fx_stack (nI s) (2 : Int32) σ = some (nI (rRep (N s) (R s)), 0) := by
    show f_X11_stack (nI s) (2 : Int32) (σ.1 0) (σ.1 19) (σ.2.2.1 17) (σ.2.2.1 18) = _
    rw [n1]
    exact v_st2 hN hs _
  exact ⟨_, e, rfl, ⟨t1, t2, t3, t4, t5, t6, t7, hT⟩, ⟨i1, i2⟩, n1, n2, hN⟩
theorem z_st3 (hC : JC c g a1 a2 a3) (hJ : JJ c g ua ga A a1 a2 a3 N R N0 R0 σ) {s : Nat} (hs : s < c) : ∃ o, fx_stack (nI s) (3 : Int32) σ = some o ∧ o.1 = nI (rPd (N s) (R s)) ∧ JJ c g ua ga A a1 a2 a3 N R N0 R0 (ux_stack σ o) := by
  obtain ⟨⟨t1, t2, t3, t4, t5, t6, t7, hT⟩, ⟨i1, i2⟩, n1, n2, hN⟩ := hJ
  have e : fx_stack (nI s) (3 : Int32) σ = some (nI (rPd (N s) (R s)), 0) := by
    show f_X11_stack (nI s) (3 : Int32) (σ.1 0) (σ.1 19) (σ.2.2.1 17) (σ.2.2.1 18) = _
    rw [n1]
    exact v_st3 hN hs _
  exact ⟨_, e, rfl, ⟨t1, t2, t3, t4, t5, t6, t7, hT⟩, ⟨i1, i2⟩, n1, n2, hN⟩
theorem z_st4 (hC : JC c g a1 a2 a3) (hJ : JJ c g ua ga A a1 a2 a3 N R N0 R0 σ) {s : Nat} (hs : s < c) : ∃ o, fx_stack (nI s) (4 : Int32) σ = some o ∧ o.1 = nI (rH (N s) (R s)) ∧ JJ c g ua ga A a1 a2 a3 N R N0 R0 (ux_stack σ o) := by
  obtain ⟨⟨t1, t2, t3, t4, t5, t6, t7, hT⟩, ⟨i1, i2⟩, n1, n2, hN⟩ := hJ
  have e : fx_stack (nI s) (4 : Int32) σ = some (nI (rH (N s) (R s)), 0) := by
    show f_X11_stack (nI s) (4 : Int32) (σ.1 0) (σ.1 19) (σ.2.2.1 17) (σ.2.2.1 18) = _
    rw [n1]
    exact v_st4 hN hs _
  exact ⟨_, e, rfl, ⟨t1, t2, t3, t4, t5, t6, t7, hT⟩, ⟨i1, i2⟩, n1, n2, hN⟩
theorem z_st5 (hC : JC c g a1 a2 a3) (hJ : JJ c g ua ga A a1 a2 a3 N R N0 R0 σ) {s : Nat} (hs : s < c) : ∃ o, fx_stack (nI s) (5 : Int32) σ = some o ∧ o.1 = nI (if rH (N s) (R s) = 0 then 1 else rH (N s) (R s)) ∧ JJ c g ua ga A a1 a2 a3 N R N0 R0 (ux_stack σ o) := by
  obtain ⟨⟨t1, t2, t3, t4, t5, t6, t7, hT⟩, ⟨i1, i2⟩, n1, n2, hN⟩ := hJ
  have e : fx_stack (nI s) (5 : Int32) σ = some (nI (if rH (N s) (R s) = 0 then 1 else rH (N s) (R s)), 0) := by
    show f_X11_stack (nI s) (5 : Int32) (σ.1 0) (σ.1 19) (σ.2.2.1 17) (σ.2.2.1 18) = _
    rw [n1]
    exact v_st5 hN hs _
  exact ⟨_, e, rfl, ⟨t1, t2, t3, t4, t5, t6, t7, hT⟩, ⟨i1, i2⟩, n1, n2, hN⟩
theorem z_sum (hC : JC c g a1 a2 a3) (hJ : JJ c g ua ga A a1 a2 a3 N R N0 R0 σ) {s : Nat} (hs : s < c) : ∃ o, fx_sum (nI s) σ = some o ∧ o.1 = (2 : Int32) * nI (rP (R s)) - nI (N s) ∧ JJ c g ua ga A a1 a2 a3 N R N0 R0 (ux_sum σ o) := by
  obtain ⟨⟨t1, t2, t3, t4, t5, t6, t7, hT⟩, ⟨i1, i2⟩, n1, n2, hN⟩ := hJ
  have e : fx_sum (nI s) σ = some ((2 : Int32) * nI (rP (R s)) - nI (N s), 0) := by
    show f_X11_sum (nI s) (σ.1 0) (σ.1 19) (σ.2.2.1 17) (σ.2.2.1 18) = _
    rw [n1]
    exact v_sum hN hs _
  exact ⟨_, e, rfl, ⟨t1, t2, t3, t4, t5, t6, t7, hT⟩, ⟨i1, i2⟩, n1, n2, hN⟩
theorem z_layer (hC : JC c g a1 a2 a3) (hJ : JJ c g ua ga A a1 a2 a3 N R N0 R0 σ) {s k : Nat} (hs : s < c) (hk : k < 36) : ∃ o, fx_layer (nI s) (nI k) σ = some o ∧ o.1 = nI (rLt (N s) (R s) k) ∧ JJ c g ua ga A a1 a2 a3 N R N0 R0 (ux_layer σ o) := by
  obtain ⟨⟨t1, t2, t3, t4, t5, t6, t7, hT⟩, ⟨i1, i2⟩, n1, n2, hN⟩ := hJ
  have e : fx_layer (nI s) (nI k) σ = some (nI (rLt (N s) (R s) k), 0) := by
    show f_X11_layer (nI s) (nI k) (σ.1 0) (σ.1 19) (σ.2.2.1 17) (σ.2.2.1 18) = _
    rw [n1]
    exact v_layer hN hs hk _
  exact ⟨_, e, rfl, ⟨t1, t2, t3, t4, t5, t6, t7, hT⟩, ⟨i1, i2⟩, n1, n2, hN⟩
theorem z_hex (hC : JC c g a1 a2 a3) (hJ : JJ c g ua ga A a1 a2 a3 N R N0 R0 σ) {s k : Nat} (hs : s < c) (hk : k < 36) : ∃ o, fx_hex (nI s) (nI k) σ = some o ∧ o.1 = nI (rX (N s) (R s) k) ∧ JJ c g ua ga A a1 a2 a3 N R N0 R0 (ux_hex σ o) := by
  obtain ⟨⟨t1, t2, t3, t4, t5, t6, t7, hT⟩, ⟨i1, i2⟩, n1, n2, hN⟩ := hJ
  have e : fx_hex (nI s) (nI k) σ = some (nI (rX (N s) (R s) k), 0) := by
    show f_X11_hex (nI s) (nI k) (σ.1 0) (σ.1 19) (σ.2.2.1 17) (σ.2.2.1 18) = _
    rw [n1]
    exact v_hex hN hs hk _
  exact ⟨_, e, rfl, ⟨t1, t2, t3, t4, t5, t6, t7, hT⟩, ⟨i1, i2⟩, n1, n2, hN⟩
theorem z_agree (hC : JC c g a1 a2 a3) (hJ : JJ c g ua ga A a1 a2 a3 N R N0 R0 σ) {s k : Nat} (hs : s < c) (h1 : 1 ≤ k) (hk : k ≤ 36) : ∃ o, fx_agree (nI s) (nI k) σ = some o ∧ o.1 = nI (Ag (N s) (R s) k) ∧ JJ c g ua ga A a1 a2 a3 N R N0 R0 (ux_agree σ o) := by
  obtain ⟨⟨t1, t2, t3, t4, t5, t6, t7, hT⟩, ⟨i1, i2⟩, n1, n2, hN⟩ := hJ
  have e : fx_agree (nI s) (nI k) σ = some (nI (Ag (N s) (R s) k), 0) := by
    show f_X11_agree (nI s) (nI k) (σ.1 0) (σ.1 19) (σ.2.2.1 17) (σ.2.2.1 18) = _
    rw [n1]
    exact v_agree hN hs h1 hk _
  exact ⟨_, e, rfl, ⟨t1, t2, t3, t4, t5, t6, t7, hT⟩, ⟨i1, i2⟩, n1, n2, hN⟩
theorem z_energy (hC : JC c g a1 a2 a3) (hJ : JJ c g ua ga A a1 a2 a3 N R N0 R0 σ) {s : Nat} (hs : s < c) : ∃ o, fx_energy (nI s) σ = some o ∧ o.1 = eE (N s) (R s) a1 a2 a3 ∧ JJ c g ua ga A a1 a2 a3 N R N0 R0 (ux_energy σ o) := by
  obtain ⟨⟨t1, t2, t3, t4, t5, t6, t7, hT⟩, ⟨i1, i2⟩, n1, n2, hN⟩ := hJ
  have e : fx_energy (nI s) σ = some (eE (N s) (R s) a1 a2 a3, 0) := by
    show f_X11_energy (nI s) (σ.1 0) (σ.1 19) (σ.1 30) (σ.1 31) (σ.1 32) (σ.2.2.1 17) (σ.2.2.1 18) = _
    rw [n1, t2, t3, t4]
    exact v_energy hN hs _ _ _ _
  exact ⟨_, e, rfl, ⟨t1, t2, t3, t4, t5, t6, t7, hT⟩, ⟨i1, i2⟩, n1, n2, hN⟩
theorem z_least (hC : JC c g a1 a2 a3) (hJ : JJ c g ua ga A a1 a2 a3 N R N0 R0 σ) {s x : Nat} (hs : s < c) (hx : x < 4) : ∃ o, fx_least (nI s) (nI x) σ = some o ∧ o.1 = nI (rLA (N s) (R s) x 4) ∧ JJ c g ua ga A a1 a2 a3 N R N0 R0 (ux_least σ o) := by
  obtain ⟨⟨t1, t2, t3, t4, t5, t6, t7, hT⟩, ⟨i1, i2⟩, n1, n2, hN⟩ := hJ
  have e : fx_least (nI s) (nI x) σ = some (nI (rLA (N s) (R s) x 4), 0) := by
    show f_X11_least (nI s) (nI x) (σ.1 0) (σ.1 19) (σ.2.2.1 17) (σ.2.2.1 18) = _
    rw [n1]
    exact v_least hN hs hx _
  exact ⟨_, e, rfl, ⟨t1, t2, t3, t4, t5, t6, t7, hT⟩, ⟨i1, i2⟩, n1, n2, hN⟩
theorem z_many (hC : JC c g a1 a2 a3) (hJ : JJ c g ua ga A a1 a2 a3 N R N0 R0 σ) {s x : Nat} (hs : s < c) (hx : x < 4) : ∃ o, fx_manyAlike (nI s) (nI x) σ = some o ∧ o.1 = nI (nwC (rU (N s) (R s)) x 4 * rPd (N s) (R s)) ∧ JJ c g ua ga A a1 a2 a3 N R N0 R0 (ux_manyAlike σ o) := by
  obtain ⟨⟨t1, t2, t3, t4, t5, t6, t7, hT⟩, ⟨i1, i2⟩, n1, n2, hN⟩ := hJ
  have e : fx_manyAlike (nI s) (nI x) σ = some (nI (nwC (rU (N s) (R s)) x 4 * rPd (N s) (R s)), 0) := by
    show f_X11_manyAlike (nI s) (nI x) (σ.1 0) (σ.1 19) (σ.2.2.1 17) (σ.2.2.1 18) = _
    rw [n1]
    exact v_many hN hs hx _
  exact ⟨_, e, rfl, ⟨t1, t2, t3, t4, t5, t6, t7, hT⟩, ⟨i1, i2⟩, n1, n2, hN⟩
theorem z_alike1 (hC : JC c g a1 a2 a3) (hJ : JJ c g ua ga A a1 a2 a3 N R N0 R0 σ) {s u x : Nat} (hs : s < c) (hu : u < c) (hx : x < 4) (e : N u = N s) : ∃ o, fx_alike (nI s) (nI u) (nI x) σ = some o ∧ o.1 = (if rLA (N s) (R s) x 4 = rLA (N s) (R u) x 4 then 1 else 0) ∧ JJ c g ua ga A a1 a2 a3 N R N0 R0 (ux_alike σ o) := by
  obtain ⟨⟨t1, t2, t3, t4, t5, t6, t7, hT⟩, ⟨i1, i2⟩, n1, n2, hN⟩ := hJ
  have e : fx_alike (nI s) (nI u) (nI x) σ = some ((if rLA (N s) (R s) x 4 = rLA (N s) (R u) x 4 then 1 else 0), 0) := by
    show f_X11_alike (nI s) (nI u) (nI x) (σ.1 0) (σ.1 19) (σ.2.2.1 17) (σ.2.2.1 18) = _
    rw [n1]
    exact v_alike1 hN hs hu hx e _
  exact ⟨_, e, rfl, ⟨t1, t2, t3, t4, t5, t6, t7, hT⟩, ⟨i1, i2⟩, n1, n2, hN⟩
theorem z_alike0 (hC : JC c g a1 a2 a3) (hJ : JJ c g ua ga A a1 a2 a3 N R N0 R0 σ) {s u x : Nat} (hs : s < c) (hu : u < c) (hx : x < 4) (e : N u ≠ N s) : ∃ o, fx_alike (nI s) (nI u) (nI x) σ = some o ∧ o.1 = (0 : Int32) ∧ JJ c g ua ga A a1 a2 a3 N R N0 R0 (ux_alike σ o) := by
  obtain ⟨⟨t1, t2, t3, t4, t5, t6, t7, hT⟩, ⟨i1, i2⟩, n1, n2, hN⟩ := hJ
  have e : fx_alike (nI s) (nI u) (nI x) σ = some ((0 : Int32), 0) := by
    show f_X11_alike (nI s) (nI u) (nI x) (σ.1 0) (σ.1 19) (σ.2.2.1 17) (σ.2.2.1 18) = _
    rw [n1]
    exact v_alike0 hN hs hu hx e _
  exact ⟨_, e, rfl, ⟨t1, t2, t3, t4, t5, t6, t7, hT⟩, ⟨i1, i2⟩, n1, n2, hN⟩
theorem z_slips1 (hC : JC c g a1 a2 a3) (hJ : JJ c g ua ga A a1 a2 a3 N R N0 R0 σ) {s u x : Nat} (hs : s < c) (hu : u < c) (hx : x < 4) (e : N u = N s) : ∃ o, fx_slips (nI s) (nI u) (nI x) σ = some o ∧ o.1 = nI (rDa (N s) (R s) (R u) x (N s) 4) ∧ JJ c g ua ga A a1 a2 a3 N R N0 R0 (ux_slips σ o) := by
  obtain ⟨⟨t1, t2, t3, t4, t5, t6, t7, hT⟩, ⟨i1, i2⟩, n1, n2, hN⟩ := hJ
  have e : fx_slips (nI s) (nI u) (nI x) σ = some (nI (rDa (N s) (R s) (R u) x (N s) 4), 0) := by
    show f_X11_slips (nI s) (nI u) (nI x) (σ.1 0) (σ.1 19) (σ.2.2.1 17) (σ.2.2.1 18) = _
    rw [n1]
    exact v_slips1 hN hs hu hx e _
  exact ⟨_, e, rfl, ⟨t1, t2, t3, t4, t5, t6, t7, hT⟩, ⟨i1, i2⟩, n1, n2, hN⟩
theorem z_slips0 (hC : JC c g a1 a2 a3) (hJ : JJ c g ua ga A a1 a2 a3 N R N0 R0 σ) {s u x : Nat} (hs : s < c) (hu : u < c) (hx : x < 4) (e : N u ≠ N s) : ∃ o, fx_slips (nI s) (nI u) (nI x) σ = some o ∧ o.1 = (-2 : Int32) ∧ JJ c g ua ga A a1 a2 a3 N R N0 R0 (ux_slips σ o) := by
  obtain ⟨⟨t1, t2, t3, t4, t5, t6, t7, hT⟩, ⟨i1, i2⟩, n1, n2, hN⟩ := hJ
  have e : fx_slips (nI s) (nI u) (nI x) σ = some ((-2 : Int32), 0) := by
    show f_X11_slips (nI s) (nI u) (nI x) (σ.1 0) (σ.1 19) (σ.2.2.1 17) (σ.2.2.1 18) = _
    rw [n1]
    exact v_slips0 hN hs hu hx e _
  exact ⟨_, e, rfl, ⟨t1, t2, t3, t4, t5, t6, t7, hT⟩, ⟨i1, i2⟩, n1, n2, hN⟩
theorem z_slipEnergy (hC : JC c g a1 a2 a3) (hJ : JJ c g ua ga A a1 a2 a3 N R N0 R0 σ) {s k : Nat} (hs : s < c) (hk : k < N s) : ∃ o, fx_slipEnergy (nI s) (nI k) σ = some o ∧ o.1 = eE (N s) (rF (N s) (R s) k) a1 a2 a3 ∧ JJ c g ua ga A a1 a2 a3 N R N0 R0 (ux_slipEnergy σ o) := by
  obtain ⟨⟨t1, t2, t3, t4, t5, t6, t7, hT⟩, ⟨i1, i2⟩, n1, n2, hN⟩ := hJ
  have e : fx_slipEnergy (nI s) (nI k) σ = some (eE (N s) (rF (N s) (R s) k) a1 a2 a3, 0) := by
    show f_X11_slipEnergy (nI s) (nI k) (σ.1 0) (σ.1 19) (σ.1 30) (σ.1 31) (σ.1 32) (σ.2.2.1 17) (σ.2.2.1 18) = _
    rw [n1, t2, t3, t4]
    exact v_slipEnergy hN hs hk _ _ _ _
  exact ⟨_, e, rfl, ⟨t1, t2, t3, t4, t5, t6, t7, hT⟩, ⟨i1, i2⟩, n1, n2, hN⟩
theorem z_weakest (hC : JC c g a1 a2 a3) (hJ : JJ c g ua ga A a1 a2 a3 N R N0 R0 σ) {s : Nat} (hs : s < c) : ∃ o, fx_weakest (nI s) σ = some o ∧ o.1 = nI (rWk (N s) (R s) a1 a2 a3 (N s - 1)) ∧ JJ c g ua ga A a1 a2 a3 N R N0 R0 (ux_weakest σ o) := by
  obtain ⟨⟨t1, t2, t3, t4, t5, t6, t7, hT⟩, ⟨i1, i2⟩, n1, n2, hN⟩ := hJ
  have e : fx_weakest (nI s) σ = some (nI (rWk (N s) (R s) a1 a2 a3 (N s - 1)), 0) := by
    show f_X11_weakest (nI s) (σ.1 0) (σ.1 19) (σ.1 30) (σ.1 31) (σ.1 32) (σ.2.2.1 17) (σ.2.2.1 18) = _
    rw [n1, t2, t3, t4]
    exact v_weakest hN hs _ _ _ _
  exact ⟨_, e, rfl, ⟨t1, t2, t3, t4, t5, t6, t7, hT⟩, ⟨i1, i2⟩, n1, n2, hN⟩
theorem z_faultEnergy (hC : JC c g a1 a2 a3) (hJ : JJ c g ua ga A a1 a2 a3 N R N0 R0 σ) {s k : Nat} (hs : s < c) (h1 : 1 ≤ k) (hk : k < N s) : ∃ o, fx_faultEnergy (nI s) (nI k) σ = some o ∧ o.1 = eE (N s) (rO (N s) (R s) k) a1 a2 a3 ∧ JJ c g ua ga A a1 a2 a3 N R N0 R0 (ux_faultEnergy σ o) := by
  obtain ⟨⟨t1, t2, t3, t4, t5, t6, t7, hT⟩, ⟨i1, i2⟩, n1, n2, hN⟩ := hJ
  have e : fx_faultEnergy (nI s) (nI k) σ = some (eE (N s) (rO (N s) (R s) k) a1 a2 a3, 0) := by
    show f_X11_faultEnergy (nI s) (nI k) (σ.1 0) (σ.1 19) (σ.1 30) (σ.1 31) (σ.1 32) (σ.2.2.1 17) (σ.2.2.1 18) = _
    rw [n1, t2, t3, t4]
    exact v_faultEnergy hN hs h1 hk _ _ _ _
  exact ⟨_, e, rfl, ⟨t1, t2, t3, t4, t5, t6, t7, hT⟩, ⟨i1, i2⟩, n1, n2, hN⟩
theorem z_differs (hC : JC c g a1 a2 a3) (hJ : JJ c g ua ga A a1 a2 a3 N R N0 R0 σ) {s u : Nat} (hs : s < c) (hu : u < c) (e : ∀ m, 1 ≤ m → m ≤ 36 → rAg (N s) (R s) m (rRep (N s) (R s)) * rRep (N u) (R u) = rAg (N u) (R u) m (rRep (N u) (R u)) * rRep (N s) (R s)) : ∃ o, fx_differs (nI s) (nI u) σ = some o ∧ o.1 = (-2 : Int32) ∧ JJ c g ua ga A a1 a2 a3 N R N0 R0 (ux_differs σ o) := by
  obtain ⟨⟨t1, t2, t3, t4, t5, t6, t7, hT⟩, ⟨i1, i2⟩, n1, n2, hN⟩ := hJ
  have e : fx_differs (nI s) (nI u) σ = some ((-2 : Int32), 0) := by
    show f_X11_differs (nI s) (nI u) (σ.1 0) (σ.1 19) (σ.2.2.1 17) (σ.2.2.1 18) = _
    rw [n1]
    exact v_differs hN hs hu _ e
  exact ⟨_, e, rfl, ⟨t1, t2, t3, t4, t5, t6, t7, hT⟩, ⟨i1, i2⟩, n1, n2, hN⟩
theorem z_kinds (hC : JC c g a1 a2 a3) (hJ : JJ c g ua ga A a1 a2 a3 N R N0 R0 σ) {n x k : Nat} (h1 : 1 ≤ n) (h2 : n ≤ 12) (hx : x < 4) (hk : k ≤ 1) : ∃ o, fx_kinds (nI n) (nI x) (nI k) σ = some o ∧ o.1 = nI (kC n x k (2 ^ n)) ∧ JJ c g ua ga A a1 a2 a3 N R N0 R0 (ux_kinds σ o) := by
  obtain ⟨⟨t1, t2, t3, t4, t5, t6, t7, hT⟩, ⟨i1, i2⟩, n1, n2, hN⟩ := hJ
  have e : fx_kinds (nI n) (nI x) (nI k) σ = some (nI (kC n x k (2 ^ n)), 0) := by
    show f_X11_kinds (nI n) (nI x) (nI k) (σ.1 0) (σ.1 29) = _
    rw [t1]
    exact v_kinds h1 h2 hx hk _
  exact ⟨_, e, rfl, ⟨t1, t2, t3, t4, t5, t6, t7, hT⟩, ⟨i1, i2⟩, n1, n2, hN⟩
theorem z_grown (hC : JC c g a1 a2 a3) (hJ : JJ c g ua ga A a1 a2 a3 N R N0 R0 σ) {s n : Nat} (hs : s ≤ 65536) (h1 : 1 ≤ n) (h2 : n ≤ 12) : ∃ o, fx_grown (nI s) (nI n) σ = some o ∧ o.1 = nI (sgw g s (n - 1)) ∧ JJ c g ua ga A a1 a2 a3 N R N0 R0 (ux_grown σ o) := by
  obtain ⟨⟨t1, t2, t3, t4, t5, t6, t7, hT⟩, ⟨i1, i2⟩, n1, n2, hN⟩ := hJ
  have e : fx_grown (nI s) (nI n) σ = some (nI (sgw g s (n - 1)), 0) := by
    show f_X11_grown (nI s) (nI n) (σ.1 0) (σ.1 29) (σ.1 33) = _
    rw [t1, t5]
    exact v_grown hC.2.2.1 hs h1 h2 _
  exact ⟨_, e, rfl, ⟨t1, t2, t3, t4, t5, t6, t7, hT⟩, ⟨i1, i2⟩, n1, n2, hN⟩
theorem z_longest (hC : JC c g a1 a2 a3) (hJ : JJ c g ua ga A a1 a2 a3 N R N0 R0 σ) {s n : Nat} (hs : s ≤ 65536) (h1 : 1 ≤ n) (h2 : n ≤ 200) : ∃ o, fx_longestRun (nI s) (nI n) σ = some o ∧ o.1 = nI (sbe g s (n - 1)) ∧ JJ c g ua ga A a1 a2 a3 N R N0 R0 (ux_longestRun σ o) := by
  obtain ⟨⟨t1, t2, t3, t4, t5, t6, t7, hT⟩, ⟨i1, i2⟩, n1, n2, hN⟩ := hJ
  have e : fx_longestRun (nI s) (nI n) σ = some (nI (sbe g s (n - 1)), 0) := by
    show f_X11_longestRun (nI s) (nI n) (σ.1 0) (σ.1 29) (σ.1 33) = _
    rw [t1, t5]
    exact v_longest hC.2.2.1 hs h1 h2 _
  exact ⟨_, e, rfl, ⟨t1, t2, t3, t4, t5, t6, t7, hT⟩, ⟨i1, i2⟩, n1, n2, hN⟩
theorem z_fits (hC : JC c g a1 a2 a3) (hJ : JJ c g ua ga A a1 a2 a3 N R N0 R0 σ) {B : Nat} (fk : FK (FB B) (2 ^ ua)) (e : ZF ua ga B σ) : ∃ o, fx_fits σ = some o ∧ o.1 = nI (sm (FB B) (2 ^ ua)) ∧ JJ c g ua ga A a1 a2 a3 N R N0 R0 (ux_fits σ o) := by
  obtain ⟨⟨t1, t2, t3, t4, t5, t6, t7, hT⟩, ⟨i1, i2⟩, n1, n2, hN⟩ := hJ
  have e : fx_fits σ = some (nI (sm (FB B) (2 ^ ua)), 0) := by
    show f_X11_fits (σ.1 0) (σ.1 35) (σ.1 29) (σ.1 34) (σ.2.2.1 20) (σ.2.2.1 21) (σ.2.2.1 22) (σ.2.2.1 23) (σ.2.2.1 24) (σ.2.2.1 25) (σ.2.2.1 26) = _
    rw [t1, t6, t7]
    exact v_fits B fk e _
  exact ⟨_, e, rfl, ⟨t1, t2, t3, t4, t5, t6, t7, hT⟩, ⟨i1, i2⟩, n1, n2, hN⟩
theorem z_could (hC : JC c g a1 a2 a3) (hJ : JJ c g ua ga A a1 a2 a3 N R N0 R0 σ) {B : Nat} (fk : FK (FB B) (2 ^ ua)) (e : ZF ua ga B σ) : ∃ o, fx_could σ = some o ∧ o.1 = nI (oS (FB B) (2 ^ ua)) ∧ JJ c g ua ga A a1 a2 a3 N R N0 R0 (ux_could σ o) := by
  obtain ⟨⟨t1, t2, t3, t4, t5, t6, t7, hT⟩, ⟨i1, i2⟩, n1, n2, hN⟩ := hJ
  have e : fx_could σ = some (nI (oS (FB B) (2 ^ ua)), 0) := by
    show f_X11_could (σ.1 0) (σ.1 35) (σ.1 29) (σ.1 34) (σ.2.2.1 20) (σ.2.2.1 21) (σ.2.2.1 22) (σ.2.2.1 23) (σ.2.2.1 24) (σ.2.2.1 25) (σ.2.2.1 26) = _
    rw [t1, t6, t7]
    exact v_could B fk e _
  exact ⟨_, e, rfl, ⟨t1, t2, t3, t4, t5, t6, t7, hT⟩, ⟨i1, i2⟩, n1, n2, hN⟩
theorem z_surely (hC : JC c g a1 a2 a3) (hJ : JJ c g ua ga A a1 a2 a3 N R N0 R0 σ) {B : Nat} (fk : FK (FB B) (2 ^ ua)) (e : ZF ua ga B σ) : ∃ o, fx_surely σ = some o ∧ o.1 = nI (srl B ua) ∧ JJ c g ua ga A a1 a2 a3 N R N0 R0 (ux_surely σ o) := by
  obtain ⟨⟨t1, t2, t3, t4, t5, t6, t7, hT⟩, ⟨i1, i2⟩, n1, n2, hN⟩ := hJ
  have e : fx_surely σ = some (nI (srl B ua), 0) := by
    show f_X11_surely (σ.1 0) (σ.1 35) (σ.1 29) (σ.1 34) (σ.2.2.1 20) (σ.2.2.1 21) (σ.2.2.1 22) (σ.2.2.1 23) (σ.2.2.1 24) (σ.2.2.1 25) (σ.2.2.1 26) = _
    rw [t1, t6, t7]
    exact v_surely B hT.2.1 fk e _
  exact ⟨_, e, rfl, ⟨t1, t2, t3, t4, t5, t6, t7, hT⟩, ⟨i1, i2⟩, n1, n2, hN⟩
theorem z_ask (hC : JC c g a1 a2 a3) (hJ : JJ c g ua ga A a1 a2 a3 N R N0 R0 σ) {B : Nat} (fk : FK (FB B) (2 ^ ua)) (e : ZF ua ga B σ) : ∃ o, fx_ask σ = some o ∧ o.1 = (if sm (FB B) (2 ^ ua) = 0 ∨ ua = 0 then -2 else nI (bQ (FB B) (2 ^ ua) (ua - 1))) ∧ JJ c g ua ga A a1 a2 a3 N R N0 R0 (ux_ask σ o) := by
  obtain ⟨⟨t1, t2, t3, t4, t5, t6, t7, hT⟩, ⟨i1, i2⟩, n1, n2, hN⟩ := hJ
  have e : fx_ask σ = some ((if sm (FB B) (2 ^ ua) = 0 ∨ ua = 0 then -2 else nI (bQ (FB B) (2 ^ ua) (ua - 1))), 0) := by
    show f_X11_ask (σ.1 0) (σ.1 35) (σ.1 29) (σ.1 34) (σ.2.2.1 20) (σ.2.2.1 21) (σ.2.2.1 22) (σ.2.2.1 23) (σ.2.2.1 24) (σ.2.2.1 25) (σ.2.2.1 26) = _
    rw [t1, t6, t7]
    exact v_ask B hT.2.1 fk e _
  exact ⟨_, e, rfl, ⟨t1, t2, t3, t4, t5, t6, t7, hT⟩, ⟨i1, i2⟩, n1, n2, hN⟩
theorem z_askLeaves (hC : JC c g a1 a2 a3) (hJ : JJ c g ua ga A a1 a2 a3 N R N0 R0 σ) {B : Nat} (fk : FK (FB B) (2 ^ ua)) (e : ZF ua ga B σ) : ∃ o, fx_askLeaves σ = some o ∧ o.1 = (if sm (FB B) (2 ^ ua) = 0 ∨ ua = 0 then -2 else nI (mL (FB B) (2 ^ ua) (bQ (FB B) (2 ^ ua) (ua - 1)))) ∧ JJ c g ua ga A a1 a2 a3 N R N0 R0 (ux_askLeaves σ o) := by
  obtain ⟨⟨t1, t2, t3, t4, t5, t6, t7, hT⟩, ⟨i1, i2⟩, n1, n2, hN⟩ := hJ
  have e : fx_askLeaves σ = some ((if sm (FB B) (2 ^ ua) = 0 ∨ ua = 0 then -2 else nI (mL (FB B) (2 ^ ua) (bQ (FB B) (2 ^ ua) (ua - 1)))), 0) := by
    show f_X11_askLeaves (σ.1 0) (σ.1 35) (σ.1 29) (σ.1 34) (σ.2.2.1 20) (σ.2.2.1 21) (σ.2.2.1 22) (σ.2.2.1 23) (σ.2.2.1 24) (σ.2.2.1 25) (σ.2.2.1 26) = _
    rw [t1, t6, t7]
    exact v_askLeaves B hT.2.1 fk e _
  exact ⟨_, e, rfl, ⟨t1, t2, t3, t4, t5, t6, t7, hT⟩, ⟨i1, i2⟩, n1, n2, hN⟩
theorem z_fitAt (hC : JC c g a1 a2 a3) (hJ : JJ c g ua ga A a1 a2 a3 N R N0 R0 σ) {B i : Nat} (fk : FK (FB B) (2 ^ ua)) (e : ZF ua ga B σ) (hi : i < 2 ^ 31) (hn : ¬ fd (FB B) i (2 ^ ua) = -1) : ∃ o, fx_fitAt (nI i) σ = some o ∧ o.1 = fd (FB B) i (2 ^ ua) ∧ JJ c g ua ga A a1 a2 a3 N R N0 R0 (ux_fitAt σ o) := by
  obtain ⟨⟨t1, t2, t3, t4, t5, t6, t7, hT⟩, ⟨i1, i2⟩, n1, n2, hN⟩ := hJ
  have e : fx_fitAt (nI i) σ = some (fd (FB B) i (2 ^ ua), 0) := by
    show f_X11_fitAt (nI i) (σ.1 0) (σ.1 35) (σ.1 29) (σ.1 34) (σ.2.2.1 20) (σ.2.2.1 21) (σ.2.2.1 22) (σ.2.2.1 23) (σ.2.2.1 24) (σ.2.2.1 25) (σ.2.2.1 26) = _
    rw [t1, t6, t7]
    exact v_fitAt B fk e hi hn _
  exact ⟨_, e, rfl, ⟨t1, t2, t3, t4, t5, t6, t7, hT⟩, ⟨i1, i2⟩, n1, n2, hN⟩
theorem z_out (hC : JC c g a1 a2 a3) (hJ : JJ c g ua ga A a1 a2 a3 N R N0 R0 σ) {s k : Nat} (hs : s < c) (hk : k < rRep (N s) (R s)) : ∃ o, fx_out (nI s) (nI k) σ = some o ∧ o.1 = nI (lO (N s) (R s) k) ∧ JJ c g ua ga A a1 a2 a3 N R N0 R0 (ux_out σ o) := by
  obtain ⟨⟨t1, t2, t3, t4, t5, t6, t7, hT⟩, ⟨i1, i2⟩, n1, n2, hN⟩ := hJ
  have q : ∃ o, fx_out (nI s) (nI k) σ = some (nI (lO (N s) (R s) k), o) := by
    show ∃ o, f_X11_out (nI s) (nI k) (σ.1 0) (σ.1 19) (σ.2.2.1 15) (σ.2.2.1 16) (σ.2.2.1 17) (σ.2.2.1 18) = some (nI (lO (N s) (R s) k), o)
    rw [n1]
    obtain ⟨x1, x2, k⟩ := v_out hN hs hk (σ.1 0) (σ.2.2.1 15) (σ.2.2.1 16)
    exact ⟨_, k⟩
  obtain ⟨o, e⟩ := q
  exact ⟨_, e, rfl, ⟨t1, t2, t3, t4, t5, t6, t7, hT⟩, ⟨i1, i2⟩, n1, n2, hN⟩
theorem z_outs (hC : JC c g a1 a2 a3) (hJ : JJ c g ua ga A a1 a2 a3 N R N0 R0 σ) {s : Nat} (hs : s < c) : ∃ o, fx_outs (nI s) σ = some o ∧ o.1 = nI (sm (lO (N s) (R s)) (rRep (N s) (R s))) ∧ JJ c g ua ga A a1 a2 a3 N R N0 R0 (ux_outs σ o) := by
  obtain ⟨⟨t1, t2, t3, t4, t5, t6, t7, hT⟩, ⟨i1, i2⟩, n1, n2, hN⟩ := hJ
  have q : ∃ o, fx_outs (nI s) σ = some (nI (sm (lO (N s) (R s)) (rRep (N s) (R s))), o) := by
    show ∃ o, f_X11_outs (nI s) (σ.1 0) (σ.1 19) (σ.2.2.1 15) (σ.2.2.1 16) (σ.2.2.1 17) (σ.2.2.1 18) = some (nI (sm (lO (N s) (R s)) (rRep (N s) (R s))), o)
    rw [n1]
    obtain ⟨x1, x2, k⟩ := v_outs hN hs (σ.1 0) (σ.2.2.1 15) (σ.2.2.1 16)
    exact ⟨_, k⟩
  obtain ⟨o, e⟩ := q
  exact ⟨_, e, rfl, ⟨t1, t2, t3, t4, t5, t6, t7, hT⟩, ⟨i1, i2⟩, n1, n2, hN⟩
theorem z_same (hC : JC c g a1 a2 a3) (hJ : JJ c g ua ga A a1 a2 a3 N R N0 R0 σ) {s : Nat} (hs : s < c) : ∃ o, fx_sameLines (nI s) (nI s) σ = some o ∧ o.1 = (1 : Int32) ∧ JJ c g ua ga A a1 a2 a3 N R N0 R0 (ux_sameLines σ o) := by
  obtain ⟨⟨t1, t2, t3, t4, t5, t6, t7, hT⟩, ⟨i1, i2⟩, n1, n2, hN⟩ := hJ
  have q : ∃ o, fx_sameLines (nI s) (nI s) σ = some ((1 : Int32), o) := by
    show ∃ o, f_X11_sameLines (nI s) (nI s) (σ.1 0) (σ.1 19) (σ.2.2.1 15) (σ.2.2.1 16) (σ.2.2.1 17) (σ.2.2.1 18) = some ((1 : Int32), o)
    rw [n1]
    obtain ⟨x1, x2, k⟩ := v_same hN hs (σ.1 0) (σ.2.2.1 15) (σ.2.2.1 16)
    exact ⟨_, k⟩
  obtain ⟨o, e⟩ := q
  exact ⟨_, e, rfl, ⟨t1, t2, t3, t4, t5, t6, t7, hT⟩, ⟨i1, i2⟩, n1, n2, hN⟩
theorem z_ground (hC : JC c g a1 a2 a3) (hJ : JJ c g ua ga A a1 a2 a3 N R N0 R0 σ) {n : Nat} (h1 : 2 ≤ n) (h2 : n ≤ 12) : ∃ o, fx_ground (nI n) σ = some o ∧ o.1 = gG n a1 a2 a3 ∧ JJ c g ua ga A a1 a2 a3 N R N0 R0 (ux_ground σ o) := by
  obtain ⟨⟨t1, t2, t3, t4, t5, t6, t7, hT⟩, ⟨i1, i2⟩, n1, n2, hN⟩ := hJ
  have q : ∃ o, fx_ground (nI n) σ = some (gG n a1 a2 a3, o) := by
    show ∃ o, f_X11_ground (nI n) (σ.1 0) (σ.1 14) (σ.1 13) (σ.1 29) (σ.1 30) (σ.1 31) (σ.1 32) (σ.2.2.1 12) = some (gG n a1 a2 a3, o)
    rw [t1, t2, t3, t4]
    obtain ⟨x1, k⟩ := v_ground h1 h2 (σ.1 0) (σ.1 14) (σ.1 13) (σ.2.2.1 12)
    exact ⟨_, k⟩
  obtain ⟨o, e⟩ := q
  exact ⟨_, e, rfl, ⟨t1, t2, t3, t4, t5, t6, t7, hT⟩, ⟨i1, i2⟩, n1, n2, hN⟩
theorem z_groundRow (hC : JC c g a1 a2 a3) (hJ : JJ c g ua ga A a1 a2 a3 N R N0 R0 σ) {n : Nat} (h1 : 2 ≤ n) (h2 : n ≤ 12) : ∃ o, fx_groundRow (nI n) σ = some o ∧ o.1 = nI (gR n a1 a2 a3 (2 ^ n - 1)) ∧ JJ c g ua ga A a1 a2 a3 N R N0 R0 (ux_groundRow σ o) := by
  obtain ⟨⟨t1, t2, t3, t4, t5, t6, t7, hT⟩, ⟨i1, i2⟩, n1, n2, hN⟩ := hJ
  have q : ∃ o, fx_groundRow (nI n) σ = some (nI (gR n a1 a2 a3 (2 ^ n - 1)), o) := by
    show ∃ o, f_X11_groundRow (nI n) (σ.1 0) (σ.1 14) (σ.1 13) (σ.1 29) (σ.1 30) (σ.1 31) (σ.1 32) (σ.2.2.1 12) = some (nI (gR n a1 a2 a3 (2 ^ n - 1)), o)
    rw [t1, t2, t3, t4]
    obtain ⟨x1, k⟩ := v_groundRow h1 h2 (σ.1 0) (σ.1 14) (σ.1 13) (σ.2.2.1 12)
    exact ⟨_, k⟩
  obtain ⟨o, e⟩ := q
  exact ⟨_, e, rfl, ⟨t1, t2, t3, t4, t5, t6, t7, hT⟩, ⟨i1, i2⟩, n1, n2, hN⟩
theorem z_groundMany (hC : JC c g a1 a2 a3) (hJ : JJ c g ua ga A a1 a2 a3 N R N0 R0 σ) {n : Nat} (h1 : 2 ≤ n) (h2 : n ≤ 12) : ∃ o, fx_groundMany (nI n) σ = some o ∧ o.1 = nI (gC n a1 a2 a3 (2 ^ n - 1)) ∧ JJ c g ua ga A a1 a2 a3 N R N0 R0 (ux_groundMany σ o) := by
  obtain ⟨⟨t1, t2, t3, t4, t5, t6, t7, hT⟩, ⟨i1, i2⟩, n1, n2, hN⟩ := hJ
  have q : ∃ o, fx_groundMany (nI n) σ = some (nI (gC n a1 a2 a3 (2 ^ n - 1)), o) := by
    show ∃ o, f_X11_groundMany (nI n) (σ.1 0) (σ.1 14) (σ.1 13) (σ.1 29) (σ.1 30) (σ.1 31) (σ.1 32) (σ.2.2.1 12) = some (nI (gC n a1 a2 a3 (2 ^ n - 1)), o)
    rw [t1, t2, t3, t4]
    obtain ⟨x1, k⟩ := v_groundMany h1 h2 (σ.1 0) (σ.1 14) (σ.1 13) (σ.2.2.1 12)
    exact ⟨_, k⟩
  obtain ⟨o, e⟩ := q
  exact ⟨_, e, rfl, ⟨t1, t2, t3, t4, t5, t6, t7, hT⟩, ⟨i1, i2⟩, n1, n2, hN⟩
theorem z_relax (hC : JC c g a1 a2 a3) (hJ : JJ c g ua ga A a1 a2 a3 N R N0 R0 σ) {s r' S' : Nat} (hs : s < c) (e : ∀ x y : Int32, f_X5_settle (nI (R s)) (nI (N s)) a1 a2 a3 x y = some (nI r', nI S')) : ∃ o, fx_relax (nI s) σ = some o ∧ o.1 = nI S' ∧ JJ c g ua ga A a1 a2 a3 N R N0 R0 (ux_relax σ o) := by
  obtain ⟨⟨t1, t2, t3, t4, t5, t6, t7, hT⟩, ⟨i1, i2⟩, n1, n2, hN⟩ := hJ
  have q : ∃ o, fx_relax (nI s) σ = some (nI S', o) := by
    show ∃ o, f_X11_relax (nI s) (σ.1 0) (σ.1 17) (σ.1 18) (σ.1 19) (σ.1 30) (σ.1 31) (σ.1 32) (σ.2.2.1 17) (σ.2.2.1 18) = some (nI S', o)
    rw [n1, t2, t3, t4]
    obtain ⟨_, k⟩ := (⟨(), v_relax hN hs e (σ.1 0) (σ.1 17) (σ.1 18)⟩ : ∃ _ : Unit, _)
    exact ⟨_, k⟩
  obtain ⟨o, e⟩ := q
  exact ⟨_, e, rfl, ⟨t1, t2, t3, t4, t5, t6, t7, hT⟩, ⟨i1, i2⟩, n1, n2, hN⟩
theorem z_relaxed (hC : JC c g a1 a2 a3) (hJ : JJ c g ua ga A a1 a2 a3 N R N0 R0 σ) {s r' S' : Nat} (hs : s < c) (e : ∀ x y : Int32, f_X5_settle (nI (R s)) (nI (N s)) a1 a2 a3 x y = some (nI r', nI S')) : ∃ o, fx_relaxed (nI s) σ = some o ∧ o.1 = nI r' ∧ JJ c g ua ga A a1 a2 a3 N R N0 R0 (ux_relaxed σ o) := by
  obtain ⟨⟨t1, t2, t3, t4, t5, t6, t7, hT⟩, ⟨i1, i2⟩, n1, n2, hN⟩ := hJ
  have q : ∃ o, fx_relaxed (nI s) σ = some (nI r', o) := by
    show ∃ o, f_X11_relaxed (nI s) (σ.1 0) (σ.1 17) (σ.1 18) (σ.1 19) (σ.1 30) (σ.1 31) (σ.1 32) (σ.2.2.1 17) (σ.2.2.1 18) = some (nI r', o)
    rw [n1, t2, t3, t4]
    obtain ⟨_, k⟩ := (⟨(), v_relaxed hN hs e (σ.1 0) (σ.1 17) (σ.1 18)⟩ : ∃ _ : Unit, _)
    exact ⟨_, k⟩
  obtain ⟨o, e⟩ := q
  exact ⟨_, e, rfl, ⟨t1, t2, t3, t4, t5, t6, t7, hT⟩, ⟨i1, i2⟩, n1, n2, hN⟩
theorem z_calmest (hC : JC c g a1 a2 a3) (hJ : JJ c g ua ga A a1 a2 a3 N R N0 R0 σ) : ∃ (y : Nat), (y < c ∧ (∀ j, j < c → ¬ eE (N j) (R j) a1 a2 a3 * nI (N y) < eE (N y) (R y) a1 a2 a3 * nI (N j)) ∧ ∀ j, j < y → eE (N y) (R y) a1 a2 a3 * nI (N j) < eE (N j) (R j) a1 a2 a3 * nI (N y)) ∧ ∃ o, fx_calmest σ = some o ∧ o.1 = nI y ∧ JJ c g ua ga A a1 a2 a3 N R N0 R0 (ux_calmest σ o) := by
  obtain ⟨⟨t1, t2, t3, t4, t5, t6, t7, hT⟩, ⟨i1, i2⟩, n1, n2, hN⟩ := hJ
  obtain ⟨y, k1, k, k2⟩ := v_calmest hN hC.1 hC.2.1 (σ.1 0) a1 a2 a3
  have e : ∃ o, fx_calmest σ = some (nI y, o) := by
    show ∃ o, f_X11_calmest (σ.1 0) (σ.1 19) (σ.1 29) (σ.1 30) (σ.1 31) (σ.1 32) (σ.2.2.1 17) (σ.2.2.1 18) = some (nI y, o)
    rw [n1, t1, t2, t3, t4]
    exact ⟨_, k⟩
  obtain ⟨o, e⟩ := e
  exact ⟨y, ⟨k1, k2⟩, _, e, rfl, ⟨t1, t2, t3, t4, t5, t6, t7, hT⟩, ⟨i1, i2⟩, n1, n2, hN⟩
theorem z_first (hC : JC c g a1 a2 a3) (hJ : JJ c g ua ga A a1 a2 a3 N R N0 R0 σ) {s : Nat} (hs : s < c) : ∃ (y : Int32), (y = -2 ∨ ∃ k, 1 ≤ k ∧ k < rRep (N s) (R s) ∧ y = nI k ∧ lO (N s) (R s) k = 0 ∧ ∀ j, 1 ≤ j → j < k → lO (N s) (R s) j = 1) ∧ ∃ o, fx_firstLine (nI s) σ = some o ∧ o.1 = y ∧ JJ c g ua ga A a1 a2 a3 N R N0 R0 (ux_firstLine σ o) := by
  obtain ⟨⟨t1, t2, t3, t4, t5, t6, t7, hT⟩, ⟨i1, i2⟩, n1, n2, hN⟩ := hJ
  obtain ⟨y, x1, x2, k, k2⟩ := v_first hN hs (σ.1 0) (σ.2.2.1 15) (σ.2.2.1 16)
  have e : ∃ o, fx_firstLine (nI s) σ = some (y, o) := by
    show ∃ o, f_X11_firstLine (nI s) (σ.1 0) (σ.1 19) (σ.2.2.1 15) (σ.2.2.1 16) (σ.2.2.1 17) (σ.2.2.1 18) = some (y, o)
    rw [n1]
    exact ⟨_, k⟩
  obtain ⟨o, e⟩ := e
  exact ⟨y, k2, _, e, rfl, ⟨t1, t2, t3, t4, t5, t6, t7, hT⟩, ⟨i1, i2⟩, n1, n2, hN⟩
theorem z_groundBest (hC : JC c g a1 a2 a3) (hJ : JJ c g ua ga A a1 a2 a3 N R N0 R0 σ) : ∃ (y : Nat), (2 ≤ y ∧ y ≤ 12 ∧ (∀ j : Nat, 2 ≤ j → j ≤ 12 → (gG y a1 a2 a3).toInt * (j : Int) ≤ (gG j a1 a2 a3).toInt * (y : Int)) ∧ ∀ j : Nat, 2 ≤ j → j < y → (gG y a1 a2 a3).toInt * (j : Int) < (gG j a1 a2 a3).toInt * (y : Int)) ∧ ∃ o, fx_groundBest σ = some o ∧ o.1 = nI y ∧ JJ c g ua ga A a1 a2 a3 N R N0 R0 (ux_groundBest σ o) := by
  obtain ⟨⟨t1, t2, t3, t4, t5, t6, t7, hT⟩, ⟨i1, i2⟩, n1, n2, hN⟩ := hJ
  obtain ⟨y, x1, k1, k2, k, k3⟩ := v_groundBest hC.2.2.2.1 hC.2.2.2.2.1 hC.2.2.2.2.2 (σ.1 0) (σ.1 14) (σ.1 13) (σ.2.2.1 12)
  have e : ∃ o, fx_groundBest σ = some (nI y, o) := by
    show ∃ o, f_X11_groundBest (σ.1 0) (σ.1 14) (σ.1 13) (σ.1 29) (σ.1 30) (σ.1 31) (σ.1 32) (σ.2.2.1 12) = some (nI y, o)
    rw [t1, t2, t3, t4]
    exact ⟨_, k⟩
  obtain ⟨o, e⟩ := e
  exact ⟨y, ⟨k1, k2, k3⟩, _, e, rfl, ⟨t1, t2, t3, t4, t5, t6, t7, hT⟩, ⟨i1, i2⟩, n1, n2, hN⟩
theorem z_bestFault (hC : JC c g a1 a2 a3) (hJ : JJ c g ua ga A a1 a2 a3 N R N0 R0 σ) {s : Nat} (hs : s < c) : ∃ (y : Nat), (1 ≤ y ∧ y < N s ∧ ∀ j, 1 ≤ j → j < N s → eE (N s) (rO (N s) (R s) y) a1 a2 a3 ≤ eE (N s) (rO (N s) (R s) j) a1 a2 a3) ∧ ∃ o, fx_bestFault (nI s) σ = some o ∧ o.1 = nI y ∧ JJ c g ua ga A a1 a2 a3 N R N0 R0 (ux_bestFault σ o) := by
  obtain ⟨⟨t1, t2, t3, t4, t5, t6, t7, hT⟩, ⟨i1, i2⟩, n1, n2, hN⟩ := hJ
  obtain ⟨y, k1, k2, k, k3⟩ := v_bestFault hN hs (σ.1 0) a1 a2 a3
  have e : ∃ o, fx_bestFault (nI s) σ = some (nI y, o) := by
    show ∃ o, f_X11_bestFault (nI s) (σ.1 0) (σ.1 19) (σ.1 30) (σ.1 31) (σ.1 32) (σ.2.2.1 17) (σ.2.2.1 18) = some (nI y, o)
    rw [n1, t2, t3, t4]
    exact ⟨_, k⟩
  obtain ⟨o, e⟩ := e
  exact ⟨y, ⟨k1, k2, k3⟩, _, e, rfl, ⟨t1, t2, t3, t4, t5, t6, t7, hT⟩, ⟨i1, i2⟩, n1, n2, hN⟩
theorem z_pass (hC : JC c g a1 a2 a3) (hJ : JJ c g ua ga A a1 a2 a3 N R N0 R0 σ) {s u : Nat} (hs : s < c) (hu : u < c) (e : N u = N s) : ∃ (y : Int32), (PSP (fun j => eE (N s) j a1 a2 a3) (N s) (R s) (R u) y) ∧ ∃ o, fx_pass (nI s) (nI u) σ = some o ∧ o.1 = y ∧ JJ c g ua ga A a1 a2 a3 N R N0 R0 (ux_pass σ o) := by
  obtain ⟨⟨t1, t2, t3, t4, t5, t6, t7, hT⟩, ⟨i1, i2⟩, n1, n2, hN⟩ := hJ
  obtain ⟨y, x1, k, k2⟩ := v_pass hN hs hu e hC.2.2.2.1 hC.2.2.2.2.1 hC.2.2.2.2.2 (σ.1 0) (σ.1 16) (σ.1 15) (σ.1 14) (σ.1 13) (σ.2.2.1 12) (σ.2.2.1 13) (σ.2.2.1 14)
  have e : ∃ o, fx_pass (nI s) (nI u) σ = some (y, o) := by
    show ∃ o, f_X11_pass (nI s) (nI u) (σ.1 0) (σ.1 16) (σ.1 15) (σ.1 14) (σ.1 13) (σ.1 19) (σ.1 30) (σ.1 31) (σ.1 32) (σ.2.2.1 12) (σ.2.2.1 13) (σ.2.2.1 14) (σ.2.2.1 17) (σ.2.2.1 18) = some (y, o)
    rw [n1, t2, t3, t4]
    exact ⟨_, k⟩
  obtain ⟨o, e⟩ := e
  exact ⟨y, k2, _, e, rfl, ⟨t1, t2, t3, t4, t5, t6, t7, hT⟩, ⟨i1, i2⟩, n1, n2, hN⟩
theorem z_valley (hC : JC c g a1 a2 a3) (hJ : JJ c g ua ga A a1 a2 a3 N R N0 R0 σ) {s : Nat} (hs : s < c) : ∃ (y : Nat), (1 ≤ y ∧ y ≤ 4096) ∧ ∃ o, fx_valley (nI s) σ = some o ∧ o.1 = nI y ∧ JJ c g ua ga A a1 a2 a3 N R N0 R0 (ux_valley σ o) := by
  obtain ⟨⟨t1, t2, t3, t4, t5, t6, t7, hT⟩, ⟨i1, i2⟩, n1, n2, hN⟩ := hJ
  obtain ⟨y, x1, k, k2⟩ := v_valley (a1 := a1) (a2 := a2) (a3 := a3) hN hs (σ.1 0) (σ.1 16) (σ.1 15) (σ.1 14) (σ.1 13) (σ.2.2.1 12) (σ.2.2.1 13) (σ.2.2.1 14)
  have e : ∃ o, fx_valley (nI s) σ = some (nI y, o) := by
    show ∃ o, f_X11_valley (nI s) (σ.1 0) (σ.1 16) (σ.1 15) (σ.1 14) (σ.1 13) (σ.1 19) (σ.1 30) (σ.1 31) (σ.1 32) (σ.2.2.1 12) (σ.2.2.1 13) (σ.2.2.1 14) (σ.2.2.1 17) (σ.2.2.1 18) = some (nI y, o)
    rw [n1, t2, t3, t4]
    exact ⟨_, k⟩
  obtain ⟨o, e⟩ := e
  exact ⟨y, k2, _, e, rfl, ⟨t1, t2, t3, t4, t5, t6, t7, hT⟩, ⟨i1, i2⟩, n1, n2, hN⟩
theorem z_run1 (hC : JC c g a1 a2 a3) (hJ : JJ c g ua ga A a1 a2 a3 N R N0 R0 σ) {s i K : Nat} (hs : s < c) (hH : rH (N s) (R s) ≠ 0) (hi : i < rH (N s) (R s)) (hK : K < N s) (hKx : rX (N s) (R s) K = 1) (hKi : rXc (N s) (R s) K = i) : ∃ (y : Nat), (1 ≤ y ∧ y ≤ N s ∧ rX (N s) (R s) (K + y) = 1 ∧ ∀ j, 1 ≤ j → j < y → rX (N s) (R s) (K + j) = 0) ∧ ∃ o, fx_run (nI s) (nI i) σ = some o ∧ o.1 = nI y ∧ JJ c g ua ga A a1 a2 a3 N R N0 R0 (ux_run σ o) := by
  obtain ⟨⟨t1, t2, t3, t4, t5, t6, t7, hT⟩, ⟨i1, i2⟩, n1, n2, hN⟩ := hJ
  obtain ⟨y, k, k2⟩ := v_run1 hN hs hH hi hK hKx hKi (σ.1 0)
  have e : ∃ o, fx_run (nI s) (nI i) σ = some (nI y, o) := by
    show ∃ o, f_X11_run (nI s) (nI i) (σ.1 0) (σ.1 19) (σ.2.2.1 17) (σ.2.2.1 18) = some (nI y, o)
    rw [n1]
    exact ⟨_, k⟩
  obtain ⟨o, e⟩ := e
  exact ⟨y, k2, _, e, rfl, ⟨t1, t2, t3, t4, t5, t6, t7, hT⟩, ⟨i1, i2⟩, n1, n2, hN⟩
theorem z_run0 (hC : JC c g a1 a2 a3) (hJ : JJ c g ua ga A a1 a2 a3 N R N0 R0 σ) {s : Nat} (hs : s < c) (hH : rH (N s) (R s) = 0) : ∃ o, fx_run (nI s) (0 : Int32) σ = some o ∧ o.1 = nI (N s) ∧ JJ c g ua ga A a1 a2 a3 N R N0 R0 (ux_run σ o) := by
  obtain ⟨⟨t1, t2, t3, t4, t5, t6, t7, hT⟩, ⟨i1, i2⟩, n1, n2, hN⟩ := hJ
  have e : fx_run (nI s) (0 : Int32) σ = some (nI (N s), 0) := by
    show f_X11_run (nI s) (0 : Int32) (σ.1 0) (σ.1 19) (σ.2.2.1 17) (σ.2.2.1 18) = _
    rw [n1]
    exact v_run0 hN hs hH _
  exact ⟨_, e, rfl, ⟨t1, t2, t3, t4, t5, t6, t7, hT⟩, ⟨i1, i2⟩, n1, n2, hN⟩
theorem z_judge (hC : JC c g a1 a2 a3) (hJ : JJ c g ua ga A a1 a2 a3 N R N0 R0 σ) : ∃ (y : Int32), (y < 0 → ∀ j, j < ga → f_X1_isSo (nI j) (nI 0) (nI ua) (σ.2.2.1 20) (σ.2.2.1 21) (σ.2.2.1 22) (σ.2.2.1 23) (σ.2.2.1 24) (σ.2.2.1 25) (σ.2.2.1 26) = some 1) ∧ ∃ o, fx_judge σ = some o ∧ o.1 = y ∧ JJ c g ua ga A a1 a2 a3 N R N0 R0 (ux_judge σ o) := by
  obtain ⟨⟨t1, t2, t3, t4, t5, t6, t7, hT⟩, ⟨i1, i2⟩, n1, n2, hN⟩ := hJ
  obtain ⟨y, k, k2⟩ := v_judge hT (σ.1 0)
  have e : ∃ o, fx_judge σ = some (y, o) := by
    show ∃ o, f_X11_judge (σ.1 0) (σ.1 35) (σ.1 29) (σ.1 34) (σ.2.2.1 20) (σ.2.2.1 21) (σ.2.2.1 22) (σ.2.2.1 23) (σ.2.2.1 24) (σ.2.2.1 25) (σ.2.2.1 26) = some (y, o)
    rw [t1, t6, t7]
    exact ⟨_, k⟩
  obtain ⟨o, e⟩ := e
  exact ⟨y, k2, _, e, rfl, ⟨t1, t2, t3, t4, t5, t6, t7, hT⟩, ⟨i1, i2⟩, n1, n2, hN⟩
/-- the fits are one set of sets over the whole script -/
theorem z_of (hJ : JJ c g ua ga A a1 a2 a3 N R N0 R0 σ) : ∃ B, B < 2 ^ 2 ^ ua ∧ FK (FB B) (2 ^ ua) ∧ ZF ua ga B σ ∧ ((∀ j, j < ga → f_X1_isSo (nI j) (nI 0) (nI ua) (σ.2.2.1 20) (σ.2.2.1 21) (σ.2.2.1 22) (σ.2.2.1 23) (σ.2.2.1 24) (σ.2.2.1 25) (σ.2.2.1 26) = some 1) → FB B 0 = 1) := v_of hJ.1.2.2.2.2.2.2.2
theorem z_odds (hC : JC c g a1 a2 a3) {n k : Nat} (h1 : 1 ≤ n) (hn : n ≤ 8) (hk : k ≤ 6) : ∃ u d : Nat, u ≤ d ∧ d < 2 ^ 50 ∧ (n ≤ k + 1 → u = 1) ∧ ∀ {σ : k_SB}, JJ c g ua ga A a1 a2 a3 N R N0 R0 σ → (∃ o, fx_odds (nI n) (nI k) (0 : Int32) σ = some o ∧ o.1 = lN u ∧ JJ c g ua ga A a1 a2 a3 N R N0 R0 (ux_odds σ o)) ∧ (∃ o, fx_odds (nI n) (nI k) (1 : Int32) σ = some o ∧ o.1 = lN d ∧ JJ c g ua ga A a1 a2 a3 N R N0 R0 (ux_odds σ o)) := by
  obtain ⟨u, d, e1, e2, e3, e4, e5⟩ := v_odds hC.2.2.1 h1 hn hk 0
  refine ⟨u, d, e3, e4, e5, fun {σ} hJ => ?_⟩
  obtain ⟨⟨t1, t2, t3, t4, t5, t6, t7, hT⟩, ⟨i1, i2⟩, n1, n2, hN⟩ := hJ
  have st : ∀ (w : Int32) (t : Int32), f_X11_odds (nI n) (nI k) w t 1 (nI g) = f_X11_odds (nI n) (nI k) w 0 1 (nI g) := fun w t => rfl
  refine ⟨⟨(lN u, 0), ?_, rfl, ⟨t1, t2, t3, t4, t5, t6, t7, hT⟩, ⟨i1, i2⟩, n1, n2, hN⟩, ⟨(lN d, 0), ?_, rfl, ⟨t1, t2, t3, t4, t5, t6, t7, hT⟩, ⟨i1, i2⟩, n1, n2, hN⟩⟩
  · show f_X11_odds (nI n) (nI k) (0 : Int32) (σ.1 0) (σ.1 29) (σ.1 33) = _
    rw [t1, t5, st]; exact e1
  · show f_X11_odds (nI n) (nI k) (1 : Int32) (σ.1 0) (σ.1 29) (σ.1 33) = _
    rw [t1, t5, st]; exact e2
theorem z_mean (hC : JC c g a1 a2 a3) {n : Nat} (h1 : 1 ≤ n) (hn : n ≤ 8) : ∃ (x : Int64) (d : Nat), x.toInt ≤ (n * d : Nat) ∧ -((n * d : Nat) : Int) ≤ x.toInt ∧ 1 ≤ d ∧ d ≤ 100 ^ 7 ∧ ∀ {σ : k_SB}, JJ c g ua ga A a1 a2 a3 N R N0 R0 σ → (∃ o, fx_meanSum (nI n) (0 : Int32) σ = some o ∧ o.1 = x ∧ JJ c g ua ga A a1 a2 a3 N R N0 R0 (ux_meanSum σ o)) ∧ (∃ o, fx_meanSum (nI n) (1 : Int32) σ = some o ∧ o.1 = lN d ∧ JJ c g ua ga A a1 a2 a3 N R N0 R0 (ux_meanSum σ o)) := by
  obtain ⟨x, d, e1, e2, e3, e4, e5, e6⟩ := v_mean hC.2.2.1 h1 hn 0
  refine ⟨x, d, e3, e4, e5, e6, fun {σ} hJ => ?_⟩
  obtain ⟨⟨t1, t2, t3, t4, t5, t6, t7, hT⟩, ⟨i1, i2⟩, n1, n2, hN⟩ := hJ
  have st : ∀ (w : Int32) (t : Int32), f_X11_meanSum (nI n) w t 1 (nI g) = f_X11_meanSum (nI n) w 0 1 (nI g) := fun w t => rfl
  refine ⟨⟨(x, 0), ?_, rfl, ⟨t1, t2, t3, t4, t5, t6, t7, hT⟩, ⟨i1, i2⟩, n1, n2, hN⟩, ⟨(lN d, 0), ?_, rfl, ⟨t1, t2, t3, t4, t5, t6, t7, hT⟩, ⟨i1, i2⟩, n1, n2, hN⟩⟩
  · show f_X11_meanSum (nI n) (0 : Int32) (σ.1 0) (σ.1 29) (σ.1 33) = _
    rw [t1, t5, st]; exact e1
  · show f_X11_meanSum (nI n) (1 : Int32) (σ.1 0) (σ.1 29) (σ.1 33) = _
    rw [t1, t5, st]; exact e2
theorem z_slip (hC : JC c g a1 a2 a3) (hJ : JJ c g ua ga A a1 a2 a3 N R N0 R0 σ) (hA : A ≤ 15) {s k : Nat} (hs : s < c) (hk : k < N s) : ∃ o, fx_slip (nI s) (nI k) σ = some o ∧ o.1 = nI (rF (N s) (R s) k) ∧ JJ c g ua ga (A + 1) a1 a2 a3 (upN N s (N s)) (upN R s (rF (N s) (R s) k)) N0 R0 (ux_slip σ o) := by
  obtain ⟨⟨t1, t2, t3, t4, t5, t6, t7, hT⟩, ⟨i1, i2⟩, n1, n2, hN⟩ := hJ
  obtain ⟨x1, kk⟩ := v_slip (ch := σ.2.2.1 0) (al := σ.2.2.1 1) (ar := σ.2.2.1 2) hN hs hA hk (σ.1 0)
  have e : fx_slip (nI s) (nI k) σ = some (nI (rF (N s) (R s) k), 0, nI (A + 1), x1.1, x1.2.1, x1.2.2, upd (σ.2.2.1 17) s (nI (N s)), upd (σ.2.2.1 18) s (nI (rF (N s) (R s) k))) := by
    show f_X11_slip (nI s) (nI k) (σ.1 0) (σ.1 3) (σ.1 19) (σ.2.2.1 0) (σ.2.2.1 1) (σ.2.2.1 2) (σ.2.2.1 17) (σ.2.2.1 18) = _
    rw [n1, n2]; exact kk
  exact ⟨_, e, rfl, ⟨t1, t2, t3, t4, t5, t6, t7, hT⟩, ⟨i1, i2⟩, n1, rfl, SVx_put hN hs (hN.2 s hs).1 (sv_2 hN hs) (rF_lt (sv_1 hN hs) (sv_R hN hs))⟩
theorem z_turn (hC : JC c g a1 a2 a3) (hJ : JJ c g ua ga A a1 a2 a3 N R N0 R0 σ) (hA : A ≤ 15) {s : Nat} (hs : s < c) : ∃ o, fx_turn (nI s) σ = some o ∧ o.1 = nI (rT (N s) (R s)) ∧ JJ c g ua ga (A + 1) a1 a2 a3 (upN N s (N s)) (upN R s (rT (N s) (R s))) N0 R0 (ux_turn σ o) := by
  obtain ⟨⟨t1, t2, t3, t4, t5, t6, t7, hT⟩, ⟨i1, i2⟩, n1, n2, hN⟩ := hJ
  obtain ⟨x1, kk⟩ := v_turn (ch := σ.2.2.1 0) (al := σ.2.2.1 1) (ar := σ.2.2.1 2) hN hs hA (σ.1 0)
  have e : fx_turn (nI s) σ = some (nI (rT (N s) (R s)), 0, nI (A + 1), x1.1, x1.2.1, x1.2.2, upd (σ.2.2.1 17) s (nI (N s)), upd (σ.2.2.1 18) s (nI (rT (N s) (R s)))) := by
    show f_X11_turn (nI s) (σ.1 0) (σ.1 3) (σ.1 19) (σ.2.2.1 0) (σ.2.2.1 1) (σ.2.2.1 2) (σ.2.2.1 17) (σ.2.2.1 18) = _
    rw [n1, n2]; exact kk
  exact ⟨_, e, rfl, ⟨t1, t2, t3, t4, t5, t6, t7, hT⟩, ⟨i1, i2⟩, n1, rfl, SVx_put hN hs (hN.2 s hs).1 (sv_2 hN hs) (rT_lt (sv_1 hN hs) (sv_2 hN hs) (sv_R hN hs))⟩
theorem z_twin (hC : JC c g a1 a2 a3) (hJ : JJ c g ua ga A a1 a2 a3 N R N0 R0 σ) (hA : A ≤ 15) {s : Nat} (hs : s < c) : ∃ o, fx_twin (nI s) σ = some o ∧ o.1 = nI (rW (N s) (R s)) ∧ JJ c g ua ga (A + 1) a1 a2 a3 (upN N s (N s)) (upN R s (rW (N s) (R s))) N0 R0 (ux_twin σ o) := by
  obtain ⟨⟨t1, t2, t3, t4, t5, t6, t7, hT⟩, ⟨i1, i2⟩, n1, n2, hN⟩ := hJ
  obtain ⟨x1, kk⟩ := v_twin (ch := σ.2.2.1 0) (al := σ.2.2.1 1) (ar := σ.2.2.1 2) hN hs hA (σ.1 0)
  have e : fx_twin (nI s) σ = some (nI (rW (N s) (R s)), 0, nI (A + 1), x1.1, x1.2.1, x1.2.2, upd (σ.2.2.1 17) s (nI (N s)), upd (σ.2.2.1 18) s (nI (rW (N s) (R s)))) := by
    show f_X11_twin (nI s) (σ.1 0) (σ.1 3) (σ.1 19) (σ.2.2.1 0) (σ.2.2.1 1) (σ.2.2.1 2) (σ.2.2.1 17) (σ.2.2.1 18) = _
    rw [n1, n2]; exact kk
  exact ⟨_, e, rfl, ⟨t1, t2, t3, t4, t5, t6, t7, hT⟩, ⟨i1, i2⟩, n1, rfl, SVx_put hN hs (hN.2 s hs).1 (sv_2 hN hs) (rW_lt (sv_R hN hs))⟩
theorem z_grow (hC : JC c g a1 a2 a3) (hJ : JJ c g ua ga A a1 a2 a3 N R N0 R0 σ) (hA : A ≤ 15) {s b : Nat} (hs : s < c) (hn : N s < 12) (hb : b ≤ 1) : ∃ o, fx_grow (nI s) (nI b) σ = some o ∧ o.1 = nI (N s + 1) ∧ JJ c g ua ga (A + 1) a1 a2 a3 (upN N s (N s + 1)) (upN R s (2 * R s + b)) N0 R0 (ux_grow σ o) := by
  obtain ⟨⟨t1, t2, t3, t4, t5, t6, t7, hT⟩, ⟨i1, i2⟩, n1, n2, hN⟩ := hJ
  obtain ⟨x1, kk⟩ := v_grow (ch := σ.2.2.1 0) (al := σ.2.2.1 1) (ar := σ.2.2.1 2) hN hs hA hn hb (σ.1 0)
  have e : fx_grow (nI s) (nI b) σ = some (nI (N s + 1), 0, nI (A + 1), x1.1, x1.2.1, x1.2.2, upd (σ.2.2.1 17) s (nI (N s + 1)), upd (σ.2.2.1 18) s (nI (2 * R s + b))) := by
    show f_X11_grow (nI s) (nI b) (σ.1 0) (σ.1 3) (σ.1 19) (σ.2.2.1 0) (σ.2.2.1 1) (σ.2.2.1 2) (σ.2.2.1 17) (σ.2.2.1 18) = _
    rw [n1, n2]; exact kk
  exact ⟨_, e, rfl, ⟨t1, t2, t3, t4, t5, t6, t7, hT⟩, ⟨i1, i2⟩, n1, rfl, SVx_put hN hs (by have := (hN.2 s hs).1; omega) (by omega) (by have := sv_R hN hs; rw [Nat.pow_succ]; omega)⟩
theorem z_cut (hC : JC c g a1 a2 a3) (hJ : JJ c g ua ga A a1 a2 a3 N R N0 R0 σ) (hA : A ≤ 15) {s : Nat} (hs : s < c) (hn : 2 < N s) : ∃ o, fx_cut (nI s) σ = some o ∧ o.1 = nI (N s - 1) ∧ JJ c g ua ga (A + 1) a1 a2 a3 (upN N s (N s - 1)) (upN R s (R s / 2)) N0 R0 (ux_cut σ o) := by
  obtain ⟨⟨t1, t2, t3, t4, t5, t6, t7, hT⟩, ⟨i1, i2⟩, n1, n2, hN⟩ := hJ
  obtain ⟨x1, kk⟩ := v_cut (ch := σ.2.2.1 0) (al := σ.2.2.1 1) (ar := σ.2.2.1 2) hN hs hA hn (σ.1 0)
  have e : fx_cut (nI s) σ = some (nI (N s - 1), 0, nI (A + 1), x1.1, x1.2.1, x1.2.2, upd (σ.2.2.1 17) s (nI (N s - 1)), upd (σ.2.2.1 18) s (nI (R s / 2))) := by
    show f_X11_cut (nI s) (σ.1 0) (σ.1 3) (σ.1 19) (σ.2.2.1 0) (σ.2.2.1 1) (σ.2.2.1 2) (σ.2.2.1 17) (σ.2.2.1 18) = _
    rw [n1, n2]; exact kk
  exact ⟨_, e, rfl, ⟨t1, t2, t3, t4, t5, t6, t7, hT⟩, ⟨i1, i2⟩, n1, rfl, SVx_put hN hs (by omega) (by have := sv_2 hN hs; omega) (by have h := sv_R hN hs; exact r2_half hn h)⟩
theorem z_grow12 (hJ : JJ c g ua ga A a1 a2 a3 N R N0 R0 σ) {s : Nat} (hs : s < c) (hn : N s = 12) (p : Int32) : ∃ o, fx_grow (nI s) p σ = some o ∧ o.1 = -1 ∧ (ux_grow σ o).1 0 = 3 ∧ JJ c g ua ga A a1 a2 a3 N R N0 R0 (ux_grow σ o) := by
  obtain ⟨⟨t1, t2, t3, t4, t5, t6, t7, hT⟩, ⟨i1, i2⟩, n1, n2, hN⟩ := hJ
  have e : fx_grow (nI s) p σ = some (-1, 3, σ.1 3, σ.2.2.1 0, σ.2.2.1 1, σ.2.2.1 2, σ.2.2.1 17, σ.2.2.1 18) := by
    show f_X11_grow (nI s) p (σ.1 0) (σ.1 3) (σ.1 19) (σ.2.2.1 0) (σ.2.2.1 1) (σ.2.2.1 2) (σ.2.2.1 17) (σ.2.2.1 18) = _
    rw [n1]; exact v_grow12 hN hs hn p _ _
  exact ⟨_, e, rfl, rfl, ⟨t1, t2, t3, t4, t5, t6, t7, hT⟩, ⟨i1, i2⟩, n1, n2, hN⟩
theorem z_cut2 (hJ : JJ c g ua ga A a1 a2 a3 N R N0 R0 σ) {s : Nat} (hs : s < c) (hn : N s = 2) : ∃ o, fx_cut (nI s) σ = some o ∧ o.1 = -1 ∧ (ux_cut σ o).1 0 = 5 ∧ JJ c g ua ga A a1 a2 a3 N R N0 R0 (ux_cut σ o) := by
  obtain ⟨⟨t1, t2, t3, t4, t5, t6, t7, hT⟩, ⟨i1, i2⟩, n1, n2, hN⟩ := hJ
  have e : fx_cut (nI s) σ = some (-1, 5, σ.1 3, σ.2.2.1 0, σ.2.2.1 1, σ.2.2.1 2, σ.2.2.1 17, σ.2.2.1 18) := by
    show f_X11_cut (nI s) (σ.1 0) (σ.1 3) (σ.1 19) (σ.2.2.1 0) (σ.2.2.1 1) (σ.2.2.1 2) (σ.2.2.1 17) (σ.2.2.1 18) = _
    rw [n1]; exact v_cut2 hN hs hn _ _
  exact ⟨_, e, rfl, rfl, ⟨t1, t2, t3, t4, t5, t6, t7, hT⟩, ⟨i1, i2⟩, n1, n2, hN⟩
/-- back to the image: all is as it was told, nothing to undo -/
theorem z_back (hJ : JJ c g ua ga A a1 a2 a3 N R N0 R0 σ) : ∃ o, fx_back (0 : Int32) σ = some o ∧ o.1 = 1 ∧ JJ c g ua ga 0 a1 a2 a3 N0 R0 N0 R0 (ux_back σ o) := by
  obtain ⟨⟨t1, t2, t3, t4, t5, t6, t7, hT⟩, ⟨i1, i2⟩, n1, n2, hN⟩ := hJ
  obtain ⟨L', W', k, k2⟩ := v_back (L := σ.2.2.1 17) (W := σ.2.2.1 18) (il := σ.2.2.1 10) (ir := σ.2.2.1 11) (σ.1 0) (σ.1 3)
  have e : fx_back (0 : Int32) σ = some (1, 0, 0, L', W') := by
    show f_X11_back (0 : Int32) (σ.1 0) (σ.1 3) (σ.1 12) (σ.2.2.1 10) (σ.2.2.1 11) (σ.2.2.1 17) (σ.2.2.1 18) = _
    rw [i1]; exact k
  refine ⟨_, e, rfl, ⟨t1, t2, t3, t4, t5, t6, t7, hT⟩, ⟨i1, i2⟩, n1, rfl, hN.1, fun s hs => ?_⟩
  have a := hT.1.2 s hs
  have b := k2 s (Nat.lt_of_lt_of_le hs hN.1)
  have d := i2 s hs
  exact ⟨a.1, a.2.1, a.2.2.1, b.1.trans d.1, b.2.trans d.2⟩
theorem z_undo0 (hJ : JJ c g ua ga 0 a1 a2 a3 N R N0 R0 σ) : ∃ o, fx_undo σ = some o ∧ o.1 = 0 ∧ JJ c g ua ga 0 a1 a2 a3 N R N0 R0 (ux_undo σ o) := by
  obtain ⟨⟨t1, t2, t3, t4, t5, t6, t7, hT⟩, ⟨i1, i2⟩, n1, n2, hN⟩ := hJ
  have e : fx_undo σ = some (0, 6, 0, σ.2.2.1 17, σ.2.2.1 18) := by
    show f_X11_undo (σ.1 0) (σ.1 3) (σ.2.2.1 0) (σ.2.2.1 1) (σ.2.2.1 2) (σ.2.2.1 17) (σ.2.2.1 18) = _
    rw [n2]; exact v_undo0 _
  exact ⟨_, e, rfl, ⟨t1, t2, t3, t4, t5, t6, t7, hT⟩, ⟨i1, i2⟩, n1, rfl, hN⟩
theorem z_size7 (hJ : JJ c g ua ga 0 a1 a2 a3 N R N0 R0 σ) : ∃ o, fx_size (7 : Int32) σ = some o ∧ o = 0 ∧ JJ c g ua ga 0 a1 a2 a3 N R N0 R0 (ux_size σ o) := by
  have n2 := hJ.2.2.2.1
  refine ⟨0, ?_, rfl, hJ⟩
  have k := v_size7 (σ.1 3) (σ.1 12) (σ.1 19) (σ.1 28) (σ.1 35) (σ.1 29) (σ.1 33) (σ.1 30) (σ.1 31) (σ.1 32) (σ.1 34)
  rw [n2] at k
  show f_X11_size (7 : Int32) (σ.1 3) (σ.1 12) (σ.1 19) (σ.1 28) (σ.1 35) (σ.1 29) (σ.1 33) (σ.1 30) (σ.1 31) (σ.1 32) (σ.1 34) = _
  rw [n2]; exact k
end ZOP
