/-! A CONTRACT ON A PART OF A WORLD IS ONE ON THE WHOLE -/
def k_upd : va_W → List Nat → va_W → va_W
  | ws, i :: is, e :: es => k_upd (ws.set i e) is es
  | ws, _, es => ws ++ es
theorem k_upd_get : ∀ (is : List Nat) (w1 ws : va_W) (k : Nat) (q : Nat × va_E), is.length ≤ w1.length → (∀ i ∈ is, i < ws.length) → (k_upd ws is w1)[k]? = some q →
    (∃ j : Nat, is[j]? = some k ∧ w1[j]? = some q) ∨ (k ∉ is ∧ ws[k]? = some q) ∨ (ws.length ≤ k ∧ w1[is.length + (k - ws.length)]? = some q) := by
  intro is
  induction is with
  | nil =>
    intro w1 ws k q _ _ h
    have e : k_upd ws [] w1 = ws ++ w1 := by cases w1 <;> rfl
    rw [e] at h
    rcases Nat.lt_or_ge k ws.length with g | g
    · rw [List.getElem?_append_left g] at h
      exact Or.inr (Or.inl ⟨List.not_mem_nil, h⟩)
    · rw [List.getElem?_append_right g] at h
      exact Or.inr (Or.inr ⟨g, by simpa using h⟩)
  | cons i is ih =>
    intro w1 ws k q hl hi h
    cases w1 with
    | nil => simp at hl
    | cons e es =>
      have hi0 : i < ws.length := hi i List.mem_cons_self
      have h' : (k_upd (ws.set i e) is es)[k]? = some q := h
      rcases ih es (ws.set i e) k q (by simpa using hl) (fun x hx => by rw [List.length_set]; exact hi x (List.mem_cons_of_mem _ hx)) h' with ⟨j, a, b⟩ | ⟨a, b⟩ | ⟨a, b⟩
      · exact Or.inl ⟨j + 1, by simpa using a, by simpa using b⟩
      · by_cases hk : k = i
        · subst hk
          rw [List.getElem?_set_self hi0] at b
          exact Or.inl ⟨0, by simp, by simpa using b⟩
        · rw [List.getElem?_set_ne (Ne.symm hk)] at b
          exact Or.inr (Or.inl ⟨fun z => (List.mem_cons.mp z).elim hk a, b⟩)
      · rw [List.length_set] at a b
        refine Or.inr (Or.inr ⟨a, ?_⟩)
        rw [List.length_cons, show is.length + 1 + (k - ws.length) = (is.length + (k - ws.length)) + 1 by omega, List.getElem?_cons_succ]
        exact b
theorem k_at' {is : List Nat} {ws w : va_W} (hs : is.map (fun i => ws[i]?) = w.map some) : ∀ (k : Nat) (q : Nat × va_E), w[k]? = some q → ∃ i, is[k]? = some i ∧ ws[i]? = some q := by
  intro k q hq
  have h1 : (is.map (fun i => ws[i]?))[k]? = some (some q) := by rw [hs, List.getElem?_map, hq]; rfl
  rw [List.getElem?_map] at h1
  cases hi : is[k]? with
  | none => rw [hi] at h1; cases h1
  | some i => rw [hi] at h1; exact ⟨i, rfl, Option.some.inj h1⟩
theorem k_upd_ok {D : va_G} {cl : List vw_C} {ws wc w1 : va_W} {s t : State} {sz : Nat} (hsz : s.heap.size = sz) (hP : va_P D cl ws s.heap) (hD : va_D (fun _ => True) ws) (isC : List Nat) (hC : isC.map (fun i => ws[i]?) = wc.map some) (hl : isC.length ≤ w1.length) (hP1 : va_P D cl w1 t.heap) (hD1 : va_D (va_A wc sz) w1) (hF : va_F (va_A wc sz) s t) :
    va_P D cl (k_upd ws isC w1) t.heap ∧ va_D (va_A ws sz) (k_upd ws isC w1) := by
  have hlen : isC.length = wc.length := by simpa using congrArg List.length hC
  have hlt : ∀ i ∈ isC, i < ws.length := by
    intro i hi
    obtain ⟨j, hj⟩ := List.getElem?_of_mem hi
    have h1 : (isC.map (fun i => ws[i]?))[j]? = some (ws[i]?) := by rw [List.getElem?_map, hj]; rfl
    rw [hC, List.getElem?_map] at h1
    cases hw : wc[j]? with
    | none => rw [hw] at h1; cases h1
    | some x =>
      rw [hw] at h1
      exact (List.getElem?_eq_some_iff.mp (Option.some.inj h1).symm).1
  have hA : ∀ q, va_A wc sz q → va_A ws sz q := by
    intro q h
    rcases h with ⟨k, e, h⟩ | h
    · obtain ⟨i, -, h2⟩ := k_at' hC k (q, e) h
      exact Or.inl ⟨i, e, h2⟩
    · exact Or.inr h
  have apart : ∀ (k : Nat) (q : Nat × va_E), k ∉ isC → ws[k]? = some q → q.1 < s.heap.size ∧ ¬ va_A wc sz q.1 := by
    intro k q hk hq
    have hl := (hP k q hq).lt
    refine ⟨hl, fun h => ?_⟩
    rcases h with ⟨k2, e, h⟩ | h
    · obtain ⟨j, h3, h4⟩ := k_at' hC k2 (q.1, e) h
      have := hD.1 k j q (q.1, e) hq h4 rfl
      subst this
      exact hk (List.mem_of_getElem? h3)
    · omega
  have get := fun k q => k_upd_get isC w1 ws k q hl hlt
  refine ⟨fun k q hq => ?_, fun i j x y hx hy hxy => ?_, fun k q hq => ?_⟩
  · rcases get k q hq with ⟨j, -, b⟩ | ⟨a, b⟩ | ⟨-, b⟩
    · exact hP1 j q b
    · obtain ⟨g1, g2⟩ := apart k q a b
      exact (hP k q b).kept (hF.2 q.1 g1 g2)
    · exact hP1 _ q b
  · rcases get i x hx with ⟨a, a1, a2⟩ | ⟨a1, a2⟩ | ⟨a1, a2⟩ <;> rcases get j y hy with ⟨b, b1, b2⟩ | ⟨b1, b2⟩ | ⟨b1, b2⟩
    · have := hD1.1 a b x y a2 b2 hxy
      subst this
      exact Option.some.inj (a1.symm.trans b1)
    · exact absurd (by rw [← hxy]; exact hD1.2 a x a2) (apart j y b1 b2).2
    · have := hD1.1 _ _ x y a2 b2 hxy
      have h5 := (List.getElem?_eq_some_iff.mp a1).1
      omega
    · exact absurd (by rw [hxy]; exact hD1.2 b y b2) (apart i x a1 a2).2
    · exact hD.1 i j x y a2 b2 hxy
    · exact absurd (by rw [hxy]; exact hD1.2 _ y b2) (apart i x a1 a2).2
    · have := hD1.1 _ _ x y a2 b2 hxy
      have h5 := (List.getElem?_eq_some_iff.mp b1).1
      omega
    · exact absurd (by rw [← hxy]; exact hD1.2 _ x a2) (apart j y b1 b2).2
    · have := hD1.1 _ _ x y a2 b2 hxy
      omega
  · rcases get k q hq with ⟨j, -, b⟩ | ⟨a, b⟩ | ⟨-, b⟩
    · exact hA _ (hD1.2 j q b)
    · exact Or.inl ⟨k, q.2, b⟩
    · exact hA _ (hD1.2 _ q b)
theorem k_PC_sub {G : k_G} {ws wc : va_W} {sz : Nat} {U : State} (isC : List Nat) (hC : isC.map (fun i => ws[i]?) = wc.map some) (hn : va_nd isC = true) (h : k_PC G ws sz U) : k_PC G wc sz U := by
  obtain ⟨h1, h2, h3, h4⟩ := h
  have hA : ∀ q, va_A wc sz q → va_A ws sz q := by
    intro q h
    rcases h with ⟨k, e, h⟩ | h
    · obtain ⟨i, -, h2⟩ := k_at' hC k (q, e) h
      exact Or.inl ⟨i, e, h2⟩
    · exact Or.inr h
  exact ⟨h1, fun k q hk => by obtain ⟨i, -, b⟩ := k_at' hC k q hk; exact h2 i q b, ⟨h3.1, h3.2.1, h3.2.2.narrow hA⟩, h4.sub isC hn hC⟩
theorem k_A_sub {ws wc : va_W} {sz : Nat} (isC : List Nat) (hC : isC.map (fun i => ws[i]?) = wc.map some) : ∀ q, va_A wc sz q → va_A ws sz q := by
  intro q h
  rcases h with ⟨k, e, h⟩ | h
  · obtain ⟨i, -, h2⟩ := k_at' hC k (q, e) h
    exact Or.inl ⟨i, e, h2⟩
  · exact Or.inr h
/-- the whole world's contract: what comes back is one of the worlds that X allows -/
abbrev k_Di (l : Launch) (G : k_G) (y : MethodName) (wsW : List Cond) (rm : Room) (av : List Value) (ws : va_W) (sz : Nat) (r0 : Int32) (X : va_W → Prop) (mc ms : Nat) : Prop := Met l y wsW rm (va_Pc av (k_PC G ws sz)) (va_Qi (fun r (u : va_W) => r = r0 ∧ X u) (fun u t => k_PB G (va_A ws sz) u t) (va_A ws sz)) mc ms (va_A ws sz)
abbrev k_Dl (l : Launch) (G : k_G) (y : MethodName) (wsW : List Cond) (rm : Room) (av : List Value) (ws : va_W) (sz : Nat) (r0 : Int64) (X : va_W → Prop) (mc ms : Nat) : Prop := Met l y wsW rm (va_Pc av (k_PC G ws sz)) (va_Ql (fun r (u : va_W) => r = r0 ∧ X u) (fun u t => k_PB G (va_A ws sz) u t) (va_A ws sz)) mc ms (va_A ws sz)
abbrev k_Dv (l : Launch) (G : k_G) (y : MethodName) (wsW : List Cond) (rm : Room) (av : List Value) (ws : va_W) (sz : Nat) (X : va_W → Prop) (mc ms : Nat) : Prop := Met l y wsW rm (va_Pc av (k_PC G ws sz)) (va_Qv (fun (u : va_W) => X u) (fun u t => k_PB G (va_A ws sz) u t) (va_A ws sz)) mc ms (va_A ws sz)
theorem k_framei {l : Launch} {G : k_G} {y : MethodName} {wsW : List Cond} {rm : Room} {av : List Value} {ws wc : va_W} {sz : Nat} {S : Type} {r0 : Int32} {w1 : S → va_W} {mc ms : Nat} {X : va_W → Prop} (M : k_Ci l G y wsW rm av wc sz r0 w1 mc ms) (isC : List Nat) (hC : isC.map (fun i => ws[i]?) = wc.map some) (hn : va_nd isC = true) (hl : ∀ u, isC.length ≤ (w1 u).length) (hX : ∀ u, X (k_upd ws isC (w1 u))) : k_Di l G y wsW rm av ws sz r0 X mc ms := by
  intro p e ha hf hc s m args below hfr happ hP hk
  obtain ⟨n, o, a1, a2, a3, ⟨⟨r, u, b1, b2, b3⟩, b4⟩, L, c1, c2⟩ := M p e ha hf hc s m args below hfr happ ⟨hP.1, k_PC_sub isC hC hn hP.2⟩ hk
  obtain ⟨d1, d2⟩ := k_upd_ok hP.2.1 hP.2.2.1 hP.2.2.2.2 isC hC (hl u) b3.1 b3.2 b4
  exact ⟨n, o, a1, a2, a3, ⟨⟨r, _, b1, ⟨b2, hX u⟩, d1, d2⟩, b4.1, fun q h1 h2 => b4.2 q h1 (fun z => h2 (k_A_sub isC hC q z))⟩, L, c1, fun q hq => k_A_sub isC hC _ (c2 q hq)⟩
theorem k_framel {l : Launch} {G : k_G} {y : MethodName} {wsW : List Cond} {rm : Room} {av : List Value} {ws wc : va_W} {sz : Nat} {S : Type} {r0 : Int64} {w1 : S → va_W} {mc ms : Nat} {X : va_W → Prop} (M : k_Cl l G y wsW rm av wc sz r0 w1 mc ms) (isC : List Nat) (hC : isC.map (fun i => ws[i]?) = wc.map some) (hn : va_nd isC = true) (hl : ∀ u, isC.length ≤ (w1 u).length) (hX : ∀ u, X (k_upd ws isC (w1 u))) : k_Dl l G y wsW rm av ws sz r0 X mc ms := by
  intro p e ha hf hc s m args below hfr happ hP hk
  obtain ⟨n, o, a1, a2, a3, ⟨⟨r, u, b1, b2, b3⟩, b4⟩, L, c1, c2⟩ := M p e ha hf hc s m args below hfr happ ⟨hP.1, k_PC_sub isC hC hn hP.2⟩ hk
  obtain ⟨d1, d2⟩ := k_upd_ok hP.2.1 hP.2.2.1 hP.2.2.2.2 isC hC (hl u) b3.1 b3.2 b4
  exact ⟨n, o, a1, a2, a3, ⟨⟨r, _, b1, ⟨b2, hX u⟩, d1, d2⟩, b4.1, fun q h1 h2 => b4.2 q h1 (fun z => h2 (k_A_sub isC hC q z))⟩, L, c1, fun q hq => k_A_sub isC hC _ (c2 q hq)⟩
theorem k_framev {l : Launch} {G : k_G} {y : MethodName} {wsW : List Cond} {rm : Room} {av : List Value} {ws wc : va_W} {sz : Nat} {S : Type} {w1 : S → va_W} {mc ms : Nat} {X : va_W → Prop} (M : k_Cv l G y wsW rm av wc sz w1 mc ms) (isC : List Nat) (hC : isC.map (fun i => ws[i]?) = wc.map some) (hn : va_nd isC = true) (hl : ∀ u, isC.length ≤ (w1 u).length) (hX : ∀ u, X (k_upd ws isC (w1 u))) : k_Dv l G y wsW rm av ws sz X mc ms := by
  intro p e ha hf hc s m args below hfr happ hP hk
  obtain ⟨n, o, a1, a2, a3, ⟨⟨u, b1, b2, b3⟩, b4⟩, L, c1, c2⟩ := M p e ha hf hc s m args below hfr happ ⟨hP.1, k_PC_sub isC hC hn hP.2⟩ hk
  obtain ⟨d1, d2⟩ := k_upd_ok hP.2.1 hP.2.2.1 hP.2.2.2.2 isC hC (hl u) b3.1 b3.2 b4
  exact ⟨n, o, a1, a2, a3, ⟨⟨_, b1, hX u, d1, d2⟩, b4.1, fun q h1 h2 => b4.2 q h1 (fun z => h2 (k_A_sub isC hC q z))⟩, L, c1, fun q hq => k_A_sub isC hC _ (c2 q hq)⟩
/-- the same, and of what comes back some cells are left out or stand in another order -/
theorem k_frameip {l : Launch} {G : k_G} {y : MethodName} {wsW : List Cond} {rm : Room} {av : List Value} {ws wc : va_W} {sz : Nat} {S : Type} {r0 : Int32} {w1 : S → va_W} {mc ms : Nat} {X : va_W → Prop} (M : k_Ci l G y wsW rm av wc sz r0 w1 mc ms) (isC : List Nat) (hC : isC.map (fun i => ws[i]?) = wc.map some) (hn : va_nd isC = true) (hl : ∀ u, isC.length ≤ (w1 u).length) (pick : List Nat) (hpn : va_nd pick = true) (hpl : ∀ u, pick.all (fun i => Nat.blt i (k_upd ws isC (w1 u)).length) = true) (hX : ∀ u, X (pick.filterMap (fun i => (k_upd ws isC (w1 u))[i]?))) : k_Di l G y wsW rm av ws sz r0 X mc ms := by
  intro p e ha hf hc s m args below hfr happ hP hk
  obtain ⟨n, o, a1, a2, a3, ⟨⟨r, u, b1, b2, b3⟩, b4⟩, L, c1, c2⟩ := M p e ha hf hc s m args below hfr happ ⟨hP.1, k_PC_sub isC hC hn hP.2⟩ hk
  obtain ⟨d1, d2⟩ := k_upd_ok hP.2.1 hP.2.2.1 hP.2.2.2.2 isC hC (hl u) b3.1 b3.2 b4
  exact ⟨n, o, a1, a2, a3, ⟨⟨r, _, b1, ⟨b2, hX u⟩, d1.sub pick rfl, d2.sub pick hpn (k_pick pick (hpl u))⟩, b4.1, fun q h1 h2 => b4.2 q h1 (fun z => h2 (k_A_sub isC hC q z))⟩, L, c1, fun q hq => k_A_sub isC hC _ (c2 q hq)⟩
theorem k_framevp {l : Launch} {G : k_G} {y : MethodName} {wsW : List Cond} {rm : Room} {av : List Value} {ws wc : va_W} {sz : Nat} {S : Type} {w1 : S → va_W} {mc ms : Nat} {X : va_W → Prop} (M : k_Cv l G y wsW rm av wc sz w1 mc ms) (isC : List Nat) (hC : isC.map (fun i => ws[i]?) = wc.map some) (hn : va_nd isC = true) (hl : ∀ u, isC.length ≤ (w1 u).length) (pick : List Nat) (hpn : va_nd pick = true) (hpl : ∀ u, pick.all (fun i => Nat.blt i (k_upd ws isC (w1 u)).length) = true) (hX : ∀ u, X (pick.filterMap (fun i => (k_upd ws isC (w1 u))[i]?))) : k_Dv l G y wsW rm av ws sz X mc ms := by
  intro p e ha hf hc s m args below hfr happ hP hk
  obtain ⟨n, o, a1, a2, a3, ⟨⟨u, b1, b2, b3⟩, b4⟩, L, c1, c2⟩ := M p e ha hf hc s m args below hfr happ ⟨hP.1, k_PC_sub isC hC hn hP.2⟩ hk
  obtain ⟨d1, d2⟩ := k_upd_ok hP.2.1 hP.2.2.1 hP.2.2.2.2 isC hC (hl u) b3.1 b3.2 b4
  exact ⟨n, o, a1, a2, a3, ⟨⟨_, b1, hX u, d1.sub pick rfl, d2.sub pick hpn (k_pick pick (hpl u))⟩, b4.1, fun q h1 h2 => b4.2 q h1 (fun z => h2 (k_A_sub isC hC q z))⟩, L, c1, fun q hq => k_A_sub isC hC _ (c2 q hq)⟩
theorem k_eqX {X : va_W → Prop} {w w2 : va_W} {pick : List Nat} (h : w = w2) (k : X (pick.filterMap (fun i => w2[i]?))) : X (pick.filterMap (fun i => w[i]?)) := h ▸ k
