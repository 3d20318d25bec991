/-! OWN LEMMAS over the kit, for walks that a program of mine lays: one world, one call, one end. -/
def k_nest : List Cond := [.methodLinkNest "ClosePacking" 27 ⟨"ClosePacking$Stacks", "<init>", "()V"⟩ "ClosePacking", .methodLinkNest "ClosePacking" 34 ⟨"ClosePacking$Acts", "<init>", "()V"⟩ "ClosePacking", .methodLinkNest "ClosePacking" 41 ⟨"ClosePacking$Images", "<init>", "()V"⟩ "ClosePacking", .methodLinkNest "ClosePacking" 48 ⟨"ClosePacking$Lines", "<init>", "()V"⟩ "ClosePacking", .methodLinkNest "ClosePacking" 55 ⟨"ClosePacking$Landscape", "<init>", "()V"⟩ "ClosePacking", .methodLinkNest "ClosePacking" 62 ⟨"ClosePacking$Lab", "<init>", "()V"⟩ "ClosePacking", .methodLinkNest "ClosePacking" 9 ⟨"ClosePacking$Tape", "<init>", "()V"⟩ "ClosePacking", .methodLinkNest "ClosePacking$Acts" 28 ⟨"ClosePacking", "set", "([III)V"⟩ "ClosePacking", .methodLinkNest "ClosePacking$Acts" 32 ⟨"ClosePacking", "at", "([II)I"⟩ "ClosePacking", .methodLinkNest "ClosePacking$Fits" 32 ⟨"ClosePacking", "at", "([II)I"⟩ "ClosePacking", .methodLinkNest "ClosePacking$Images" 28 ⟨"ClosePacking", "set", "([III)V"⟩ "ClosePacking", .methodLinkNest "ClosePacking$Images" 35 ⟨"ClosePacking", "at", "([II)I"⟩ "ClosePacking", .methodLinkNest "ClosePacking$Lab" 11 ⟨"ClosePacking$Stacks", "<init>", "()V"⟩ "ClosePacking", .methodLinkNest "ClosePacking$Lab" 56 ⟨"ClosePacking", "at", "([II)I"⟩ "ClosePacking", .methodLinkNest "ClosePacking$Lab" 60 ⟨"ClosePacking", "set", "([III)V"⟩ "ClosePacking", .methodLinkNest "ClosePacking$Landscape" 35 ⟨"ClosePacking", "set", "([III)V"⟩ "ClosePacking", .methodLinkNest "ClosePacking$Landscape" 39 ⟨"ClosePacking", "at", "([II)I"⟩ "ClosePacking", .methodLinkNest "ClosePacking$Lines" 39 ⟨"ClosePacking", "at", "([II)I"⟩ "ClosePacking", .methodLinkNest "ClosePacking$Lines" 43 ⟨"ClosePacking", "set", "([III)V"⟩ "ClosePacking", .methodLinkNest "ClosePacking$Stacks" 18 ⟨"ClosePacking", "at", "([II)I"⟩ "ClosePacking", .methodLinkNest "ClosePacking$Stacks" 22 ⟨"ClosePacking", "set", "([III)V"⟩ "ClosePacking", .fieldLinkNest "ClosePacking" 102 "ClosePacking$Lab" "stacks" "LClosePacking$Stacks;" "ClosePacking", .fieldLinkNest "ClosePacking" 109 "ClosePacking$Acts" "count" "I" "ClosePacking", .fieldLinkNest "ClosePacking" 112 "ClosePacking$Images" "count" "I" "ClosePacking", .fieldLinkNest "ClosePacking" 113 "ClosePacking$Stacks" "count" "I" "ClosePacking", .fieldLinkNest "ClosePacking" 172 "ClosePacking$Lab" "complete" "Z" "ClosePacking", .fieldLinkNest "ClosePacking" 232 "ClosePacking$Landscape" "slipsToRest" "I" "ClosePacking", .fieldLinkNest "ClosePacking" 235 "ClosePacking$Landscape" "rowAtRest" "I" "ClosePacking", .fieldLinkNest "ClosePacking" 267 "ClosePacking$Lab" "unsureCount" "I" "ClosePacking", .fieldLinkNest "ClosePacking" 276 "ClosePacking$Lab" "agreedCount" "I" "ClosePacking", .fieldLinkNest "ClosePacking" 283 "ClosePacking$Lab" "growth" "I" "ClosePacking", .fieldLinkNest "ClosePacking" 351 "ClosePacking$Lab" "near" "I" "ClosePacking", .fieldLinkNest "ClosePacking" 354 "ClosePacking$Lab" "second" "I" "ClosePacking", .fieldLinkNest "ClosePacking" 357 "ClosePacking$Lab" "third" "I" "ClosePacking", .fieldLinkNest "ClosePacking" 78 "ClosePacking$Tape" "length" "I" "ClosePacking", .fieldLinkNest "ClosePacking" 90 "ClosePacking$Reader" "fault" "I" "ClosePacking", .fieldLinkNest "ClosePacking" 96 "ClosePacking$Reader" "place" "I" "ClosePacking", .fieldLinkNest "ClosePacking$Fits" 21 "ClosePacking$Lab" "agreedCount" "I" "ClosePacking", .fieldLinkNest "ClosePacking$Fits" 28 "ClosePacking$Lab" "agreedStacks" "[I" "ClosePacking", .fieldLinkNest "ClosePacking$Fits" 36 "ClosePacking$Lab" "stacks" "LClosePacking$Stacks;" "ClosePacking", .fieldLinkNest "ClosePacking$Fits" 50 "ClosePacking$Lab" "agreedDistances" "[I" "ClosePacking", .fieldLinkNest "ClosePacking$Fits" 59 "ClosePacking$Lab" "agreedLayers" "[I" "ClosePacking", .fieldLinkNest "ClosePacking$Fits" 69 "ClosePacking$Lab" "unsureStacks" "[I" "ClosePacking", .fieldLinkNest "ClosePacking$Fits" 72 "ClosePacking$Lab" "unsurePlaces" "[I" "ClosePacking", .fieldLinkNest "ClosePacking$Fits" 9 "ClosePacking$Lab" "unsureCount" "I" "ClosePacking", .fieldLinkNest "ClosePacking$Lab" 42 "ClosePacking$Stacks" "count" "I" "ClosePacking", .fieldLinkNest "ClosePacking$Reader" 107 "ClosePacking$Lab" "near" "I" "ClosePacking", .fieldLinkNest "ClosePacking$Reader" 111 "ClosePacking$Lab" "second" "I" "ClosePacking", .fieldLinkNest "ClosePacking$Reader" 115 "ClosePacking$Lab" "third" "I" "ClosePacking", .fieldLinkNest "ClosePacking$Reader" 123 "ClosePacking$Lab" "growth" "I" "ClosePacking", .fieldLinkNest "ClosePacking$Reader" 45 "ClosePacking$Lab" "stacks" "LClosePacking$Stacks;" "ClosePacking", .fieldLinkNest "ClosePacking$Reader" 49 "ClosePacking$Stacks" "count" "I" "ClosePacking", .fieldLinkNest "ClosePacking$Reader" 67 "ClosePacking$Lab" "complete" "Z" "ClosePacking", .fieldLinkNest "ClosePacking$Reader" 77 "ClosePacking$Lab" "unsureCount" "I" "ClosePacking", .fieldLinkNest "ClosePacking$Reader" 80 "ClosePacking$Lab" "agreedCount" "I" "ClosePacking"]
def k_isN (w : Cond) : Bool := match w with
  | .fieldLinkNest .. => true
  | .methodLinkNest .. => true
  | _ => false
theorem k_nest_is : k_nest.all k_isN = true := by decide +kernel
theorem k_isN_same {w : Cond} (h : k_isN w = true) {u U : State} (hv : u.vm = U.vm) (hz : va_Nw w u) : va_Nw w U := by
  cases w <;> first | exact va_Nw.same rfl hv hz | (simp [k_isN] at h; done)
theorem k_isN_warm {w : Cond} (h : k_isN w = true) {s U : State} (hW : s.WarmedH U.vm) (hz : va_Nw w s) : va_Nw w U := by
  cases w <;> first | exact va_Nw.warmF hW hz | exact va_Nw.warmM hW hz | (simp [k_isN] at h; done)
def k_NW (U : State) : Prop := ∀ w ∈ k_nest, va_Nw w U
theorem k_NW.same {u U : State} (hv : u.vm = U.vm) (h : k_NW u) : k_NW U := fun w hw => k_isN_same (List.all_eq_true.mp k_nest_is w hw) hv (h w hw)
theorem k_NW.warm {s U : State} (hW : s.WarmedH U.vm) (h : k_NW s) : k_NW U := fun w hw => k_isN_warm (List.all_eq_true.mp k_nest_is w hw) hW (h w hw)
/-- the launch's fixed things: places of fields, array classes (byte, int, long, boolean), the addresses of the texts and of their bytes, of the table of primes, of the script, its length, its ints -/
abbrev k_G : Type := va_G × ClassId × ClassId × ClassId × ClassId × (Nat → Nat) × (Nat → Nat) × Nat × Nat × Nat × (Nat → Int32)
abbrev k_cB (G : k_G) : ClassId := G.2.1
abbrev k_cI (G : k_G) : ClassId := G.2.2.1
abbrev k_cJ (G : k_G) : ClassId := G.2.2.2.1
abbrev k_cZ (G : k_G) : ClassId := G.2.2.2.2.1
abbrev k_tK (G : k_G) : Nat → Nat := G.2.2.2.2.2.1
abbrev k_tV (G : k_G) : Nat → Nat := G.2.2.2.2.2.2.1
abbrev k_tP (G : k_G) : Nat := G.2.2.2.2.2.2.2.1
abbrev k_xB (G : k_G) : Nat := G.2.2.2.2.2.2.2.2.1
abbrev k_xL (G : k_G) : Nat := G.2.2.2.2.2.2.2.2.2.1
abbrev k_xs (G : k_G) : Nat → Int32 := G.2.2.2.2.2.2.2.2.2.2
abbrev k_tys (G : k_G) : List (ClassId × FieldType) := [(k_cB G, .byte), (k_cI G, .int), (k_cJ G, .long), (k_cZ G, .boolean)]
def k_len : List Nat := [3, 5, 6, 6, 4, 6, 5, 6]
def k_byt : List (List Int32) := [[108, 97, 98], [115, 116, 97, 99, 107], [117, 110, 115, 117, 114, 101], [97, 103, 114, 101, 101, 100], [110, 101, 97, 114], [115, 101, 99, 111, 110, 100], [116, 104, 105, 114, 100], [103, 114, 111, 119, 116, 104]]
def k_str : List (String × Nat × String) := [("ClosePacking$Reader", 61, "lab"), ("ClosePacking$Reader", 71, "stack"), ("ClosePacking$Reader", 73, "unsure"), ("ClosePacking$Reader", 75, "agreed"), ("ClosePacking$Reader", 95, "near"), ("ClosePacking$Reader", 109, "second"), ("ClosePacking$Reader", 113, "third"), ("ClosePacking$Reader", 117, "growth")]
def k_prm : List Int32 := [2, 3, 5, 7, 11]
/-- the texts (two places may hold one text: no word that their addresses are apart) -/
def k_VS (G : k_G) (A : Nat → Prop) (U : State) (H : Heap) : Prop := (∀ i : Nat, i < 8 → va_O "java/lang/String" (k_tK G i) A U H ∧ va_OF "java/lang/String" "coder" "B" (.int 0) (k_tK G i) A U H ∧ va_OF "java/lang/String" "value" "[B" (.ref (k_tV G i)) (k_tK G i) A U H ∧ va_T .byte (k_tV G i) (k_len.getD i 0) (fun j => .int ((k_byt.getD i []).getD j 0)) A U H) ∧ True
theorem k_VS.moved {G : k_G} {A : Nat → Prop} {u U : State} {H : Heap} (hvm : u.vm.Alike U.vm) (h : k_VS G A u H) : k_VS G A U H :=
  ⟨fun i hi => ⟨va_O.moved hvm (h.1 i hi).1, va_OF.moved hvm (h.1 i hi).2.1, va_OF.moved hvm (h.1 i hi).2.2.1, va_T.moved hvm (h.1 i hi).2.2.2⟩, trivial⟩
theorem k_VS.kept {G : k_G} {A : Nat → Prop} {U : State} {H H1 : Heap} (h : k_VS G A U H) (hq : ∀ a : Nat, a < H.size → ¬ A a → H1[a]? = H[a]?) : k_VS G A U H1 :=
  ⟨fun i hi => ⟨(h.1 i hi).1.kept hq, (h.1 i hi).2.1.kept hq, (h.1 i hi).2.2.1.kept hq, (h.1 i hi).2.2.2.kept hq⟩, trivial⟩
theorem k_VS.narrow {G : k_G} {A B : Nat → Prop} {U : State} {H : Heap} (h : k_VS G A U H) (hAB : ∀ q, B q → A q) : k_VS G B U H :=
  ⟨fun i hi => ⟨(h.1 i hi).1.narrow hAB, (h.1 i hi).2.1.narrow hAB, (h.1 i hi).2.2.1.narrow hAB, (h.1 i hi).2.2.2.narrow hAB⟩, trivial⟩
theorem k_recv {G : k_G} {A : Nat → Prop} {s : State} {H : Heap} {locs : List Loc} {i : Nat} (hE : k_VS G A s s.heap) (hi : i < 8) (hS : va_S A s.heap H locs) : ∃ cell : Cell, H[k_tK G i]? = some cell ∧ cell.vm.isStatics = false ∧ s.vm.findClass "java/lang/String" = some cell.cls := by
  obtain ⟨cell, h1, h2, h3, -⟩ := (hE.1 i hi).1.kept hS.2.1
  exact ⟨cell, h1, h2, h3⟩
/-- what holds of the heap outside every world: the table of primes, the texts, the script -/
def k_SF (G : k_G) (A : Nat → Prop) (U : State) (H : Heap) : Prop :=
  va_Z "ClosePacking$Lines" "PRIMES" "[I" (.ref (k_tP G)) A U H ∧ va_T .int (k_tP G) 5 (fun j => .int (k_prm.getD j 0)) A U H ∧ va_Z "java/lang/String" "COMPACT_STRINGS" "Z" (.int 1) A U H ∧ va_Zq "jdk/internal/util/Preconditions" "SIOOBE_FORMATTER" "Ljava/util/function/BiFunction;" A U H ∧ k_VS G A U H ∧ (∀ (i : Nat) (q : String × Nat × String), k_str[i]? = some q → vk_R q.1 q.2.1 q.2.2 (k_tK G i) U) ∧ va_T .int (k_xB G) (k_xL G) (fun j => .int (k_xs G j)) A U H
theorem k_SF.same {G : k_G} {A : Nat → Prop} {u U : State} {H : Heap} (hv : u.vm = U.vm) (h : k_SF G A u H) : k_SF G A U H := by
  have ha : U.vm.Alike u.vm := by rw [hv]; exact Vm.Alike.refl _
  have hb : u.vm.Alike U.vm := by rw [hv]; exact Vm.Alike.refl _
  obtain ⟨h1, h2, h3, h4, h5, h6, h7⟩ := h
  exact ⟨h1.moved hb, h2.moved hb, h3.moved hb, h4.moved hb, h5.moved hb, fun i q hq => vk_R.same hv.symm (h6 i q hq), h7.moved hb⟩
theorem k_SF.warm {G : k_G} {A : Nat → Prop} {s U : State} {H : Heap} (hW : s.WarmedH U.vm) (h : k_SF G A s H) : k_SF G A U H := by
  have ha := hW.alike
  obtain ⟨h1, h2, h3, h4, h5, h6, h7⟩ := h
  exact ⟨h1.moved ha, h2.moved ha, h3.moved ha, h4.moved ha, h5.moved ha, fun i q hq => vk_R.warm hW (h6 i q hq), h7.moved ha⟩
theorem k_SF.kept {G : k_G} {A : Nat → Prop} {U : State} {H H1 : Heap} (h : k_SF G A U H) (hq : ∀ a : Nat, a < H.size → ¬ A a → H1[a]? = H[a]?) : k_SF G A U H1 := by
  obtain ⟨h1, h2, h3, h4, h5, h6, h7⟩ := h
  exact ⟨h1.kept hq, h2.kept hq, h3.kept hq, h4.kept hq, h5.kept hq, h6, h7.kept hq⟩
theorem k_SF.narrow {G : k_G} {A B : Nat → Prop} {U : State} {H : Heap} (h : k_SF G A U H) (hAB : ∀ q, B q → A q) : k_SF G B U H := by
  obtain ⟨h1, h2, h3, h4, h5, h6, h7⟩ := h
  exact ⟨h1.narrow hAB, h2.narrow hAB, h3.narrow hAB, h4.narrow hAB, h5.narrow hAB, h6, h7.narrow hAB⟩
def k_X (G : k_G) (A : Nat → Prop) (U : State) (H : Heap) : Prop := va_K G.1 vwCl (k_tys G) U ∧ k_NW U ∧ k_SF G A U H
theorem k_X.same {G : k_G} {A : Nat → Prop} {u U : State} {H : Heap} (hv : u.vm = U.vm) (h : k_X G A u H) : k_X G A U H :=
  ⟨va_K.moved (by rw [hv]; exact Vm.Alike.refl _) h.1, h.2.1.same hv, h.2.2.same hv⟩
/-- to a callee, whose cells are among ours -/
theorem k_X.call {G : k_G} {A B : Nat → Prop} {s U : State} {H : Heap} {locs : List Loc} (h : k_X G A s s.heap) (hS : va_S A s.heap H locs) (hAB : ∀ q, B q → A q) (hU : U.heap = H) (hW : s.WarmedH U.vm) : k_X G B U U.heap :=
  ⟨va_K.moved hW.alike h.1, h.2.1.warm hW, by rw [hU]; exact ((h.2.2.kept (fun a h1 h2 => hS.2.1 a h1 h2)).narrow hAB).warm hW⟩
/-- a contract's start and end -/
def k_PC (G : k_G) (ws : va_W) (sz : Nat) (U : State) : Prop := U.heap.size = sz ∧ va_P G.1 vwCl ws U.heap ∧ k_X G (va_A ws sz) U U.heap ∧ va_D (fun _ => True) ws
def k_PB (G : k_G) (A : Nat → Prop) (w : va_W) (t : State) : Prop := va_P G.1 vwCl w t.heap ∧ va_D A w
theorem k_blind {G : k_G} {ws : va_W} {sz : Nat} {av : List Value} : FrameBlind (va_Pc av (k_PC G ws sz)) := by
  intro a U g mk q
  obtain ⟨q0, q1, qP, qX, qD⟩ := q
  exact ⟨q0, q1, qP, k_X.same (u := U) (U := U.calling g mk a) rfl qX, qD⟩
abbrev k_Qi (G : k_G) {S : Type} (A : Nat → Prop) (r0 : Int32) (w1 : S → va_W) : Array Value → State → Outcome → State → Prop := va_Qi (fun r (_ : S) => r = r0) (fun u t => k_PB G A (w1 u) t) A
abbrev k_Ql (G : k_G) {S : Type} (A : Nat → Prop) (r0 : Int64) (w1 : S → va_W) : Array Value → State → Outcome → State → Prop := va_Ql (fun r (_ : S) => r = r0) (fun u t => k_PB G A (w1 u) t) A
abbrev k_Qv (G : k_G) {S : Type} (A : Nat → Prop) (w1 : S → va_W) : Array Value → State → Outcome → State → Prop := va_Qv (fun (_ : S) => True) (fun u t => k_PB G A (w1 u) t) A
/-- the contracts: an int, a long, nothing -/
abbrev k_Ci (l : Launch) (G : k_G) (y : MethodName) (wsW : List Cond) (rm : Room) (av : List Value) (ws : va_W) (sz : Nat) {S : Type} (r0 : Int32) (w1 : S → va_W) (mc ms : Nat) : Prop := Met l y wsW rm (va_Pc av (k_PC G ws sz)) (k_Qi G (va_A ws sz) r0 w1) mc ms (va_A ws sz)
abbrev k_Cl (l : Launch) (G : k_G) (y : MethodName) (wsW : List Cond) (rm : Room) (av : List Value) (ws : va_W) (sz : Nat) {S : Type} (r0 : Int64) (w1 : S → va_W) (mc ms : Nat) : Prop := Met l y wsW rm (va_Pc av (k_PC G ws sz)) (k_Ql G (va_A ws sz) r0 w1) mc ms (va_A ws sz)
abbrev k_Cv (l : Launch) (G : k_G) (y : MethodName) (wsW : List Cond) (rm : Room) (av : List Value) (ws : va_W) (sz : Nat) {S : Type} (w1 : S → va_W) (mc ms : Nat) : Prop := Met l y wsW rm (va_Pc av (k_PC G ws sz)) (k_Qv G (va_A ws sz) w1) mc ms (va_A ws sz)
/-- what holds all through a method's body -/
def k_C (G : k_G) (p : Program) (s : State) (m : MethodId) (args : Array Value) (meth : Method) (c : Code) (A : Nat → Prop) (cc : ByteArray) (own : String) (wsW : List Cond) (nL : Nat) (ret : Option FieldType) (nm : String) : Prop :=
  p.tables.exec = Jvm.exec ∧ c.code = cc ∧ meth.sig.returnType = ret ∧ (∀ w ∈ wsW, w.before args s = true) ∧ s.vm.findClass own = some m.cls ∧ meth.locks = false ∧ c.maxLocals = nL ∧ (∀ q, s.heap.size ≤ q → A q) ∧ k_X G A s s.heap ∧ meth.name = nm
theorem k_of {l : Launch} {G : k_G} {y : MethodName} {wsW wsT : List Cond} {rm : Room} {av : List Value} {ws : va_W} {sz : Nat} {Qc : Array Value → State → Outcome → State → Prop} {mc ms : Nat} {cc : ByteArray} {nL : Nat} {ret : Option FieldType} {own nm : String}
    (hy : plainName y.cls = true) (hw : wsW = Cond.code y cc nL ret :: wsT) (ho : y.cls = own) (hn : y.name = nm) (hlen : Nat.ble (lg_sl av).length nL = true)
    (body : ∀ (p : Program) (e : Env) (s : State) (m : MethodId) (args : Array Value) (below : List Frame) (meth : Method) (c : Code) (ls : Array Slot), s.heap.size = sz → k_C G p s m args meth c (va_A ws sz) cc own wsW nL ret nm → va_P G.1 vwCl ws s.heap → va_D (va_A ws sz) ws → va_S (va_A ws sz) s.heap s.heap [] → lv_has ls nL (lv_args 0 av) →
      W p l e rm s m args below meth c s.heap [] 0 0 (MQ below Qc args s mc ms (va_A ws sz)) (F0 m 0 ls [])) : Met l y wsW rm (va_Pc av (k_PC G ws sz)) Qc mc ms (va_A ws sz) := by
  refine Met.ofW (cc := cc) (maxL := nL) (ret := ret) hy hw ?_
  intro p e s m args below meth c s₁ B hml hv
  obtain ⟨rfl, hsz, hP, hX, hD⟩ := hv
  have hts := atoms_spec (ws := wsW) B.pre
  have hown : s.vm.findClass own = some m.cls := by rw [← ho]; exact findClass_of_methodNamed B.named
  rw [lg_entry_eq]
  refine body p e s m _ below meth c _ hsz ⟨B.exec, B.bytes, B.returns, hts, hown, B.notSynchronized, hml, fun q h => Or.inr (by rw [← hsz]; exact h), hX, ?_⟩ hP hD.self va_S.rf (lv_entry av (Nat.le_of_ble_eq_true hlen))
  rw [← hn]; exact (name_of_methodNamed B.named B.method).1
section KB
variable {G : k_G} {p : Program} {l : Launch} {e : Env} {R : Room} {s : State} {m : MethodId} {args : Array Value} {below : List Frame} {meth : Method} {c : Code} {H : Heap} {locs : List Loc} {cells slots : Nat} {Q : State → Prop} {A : Nat → Prop} {cc : ByteArray} {own nm : String} {wsW : List Cond} {nL : Nat} {ret : Option FieldType} {pc : Nat} {ls : Array Slot} {rest st0 : List Value} {ws wc wr ws' : va_W}
/-- the ends -/
theorem k_reti {S : Type} {w1 : S → va_W} {r0 v : Int32} (C0 : k_C G p s m args meth c A cc own wsW nL (some .int) nm) (hP : va_P G.1 vwCl ws H) (hD : va_D A ws) (hS : va_S A s.heap H locs) (u : S) (hw : ws = w1 u) (hv : v = r0) (hdg : decode cc pc = .ok (.ireturn, 1)) : W p l e R s m args below meth c H locs cells slots (MQ below (k_Qi G A r0 w1) args s cells slots A) (F0 m pc ls [.int v]) := by
  subst hw; subst hv
  have hlocks := C0.2.2.2.2.2.1
  exact W.iret C0.1 C0.2.1 C0.2.2.1 (fun t ht hW => ⟨⟨v, u, rfl, rfl, by rw [ht]; exact hP, hD⟩, hS.F ht⟩) hS.2.2 hdg
theorem k_retl {S : Type} {w1 : S → va_W} {r0 v : Int64} (C0 : k_C G p s m args meth c A cc own wsW nL (some .long) nm) (hP : va_P G.1 vwCl ws H) (hD : va_D A ws) (hS : va_S A s.heap H locs) (u : S) (hw : ws = w1 u) (hv : v = r0) (hdg : decode cc pc = .ok (.lreturn, 1)) : W p l e R s m args below meth c H locs cells slots (MQ below (k_Ql G A r0 w1) args s cells slots A) (F0 m pc ls [.long v]) := by
  subst hw; subst hv
  have hlocks := C0.2.2.2.2.2.1
  exact W.lret C0.1 C0.2.1 C0.2.2.1 (fun t ht hW => ⟨⟨v, u, rfl, rfl, by rw [ht]; exact hP, hD⟩, hS.F ht⟩) hS.2.2 hdg
theorem k_retv {S : Type} {w1 : S → va_W} (C0 : k_C G p s m args meth c A cc own wsW nL none nm) (hP : va_P G.1 vwCl ws H) (hD : va_D A ws) (hS : va_S A s.heap H locs) (u : S) (hw : ws = w1 u) (hdg : decode cc pc = .ok (.return_, 1)) : W p l e R s m args below meth c H locs cells slots (MQ below (k_Qv G A w1) args s cells slots A) (F0 m pc ls []) := by
  subst hw
  have hlocks := C0.2.2.2.2.2.1
  exact W.vret C0.1 C0.2.1 C0.2.2.1 (fun t ht hW => ⟨⟨u, rfl, trivial, by rw [ht]; exact hP, hD⟩, hS.F ht⟩) hS.2.2 hdg
/-- a name for the top of the stack -/
theorem k_nmi {x v : Int32} (h : v = x) (k : W p l e R s m args below meth c H locs cells slots Q (F0 m pc ls (.int v :: rest))) : W p l e R s m args below meth c H locs cells slots Q (F0 m pc ls (.int x :: rest)) := h ▸ k
theorem k_nml {x v : Int64} (h : v = x) (k : W p l e R s m args below meth c H locs cells slots Q (F0 m pc ls (.long v :: rest))) : W p l e R s m args below meth c H locs cells slots Q (F0 m pc ls (.long x :: rest)) := h ▸ k
/-- the calls: what a callee wants -/
theorem k_pre {As : List Value} (C0 : k_C G p s m args meth c A cc own wsW nL ret nm) (hP : va_P G.1 vwCl ws H) (hD : va_D A ws) (hS : va_S A s.heap H locs) (isC : List Nat) (hC : isC.map (fun i => ws[i]?) = wc.map some) (hn : va_nd isC = true) : PreS s H (va_Pc As (k_PC G wc H.size)) As := by
  have hP1 : va_P G.1 vwCl wc H := fun k q hk => by
    have h1 : (isC.map (fun i => ws[i]?))[k]? = some (some q) := by rw [hC, List.getElem?_map, hk]; rfl
    rw [List.getElem?_map] at h1
    cases hi : isC[k]? with
    | none => rw [hi] at h1; cases h1
    | some i => rw [hi] at h1; exact hP i q (Option.some.inj h1)
  exact ⟨k_blind, fun U hU hW => ⟨rfl, by rw [hU], by rw [hU]; exact hP1, C0.2.2.2.2.2.2.2.2.1.call hS (va_free hD hS C0.2.2.2.2.2.2.2.1 isC hC) hU hW, (hD.sub isC hn hC).weaken (fun _ _ _ _ => trivial)⟩⟩
variable {y : MethodName} {wsY : List Cond} {rm : Room} {bytes : ByteArray} {maxL mc ms n index : Nat} {retY : Option FieldType} {As : List Value} {Qc : Array Value → State → Outcome → State → Prop} {free : Addr → Prop} {C host : String} {b : Addr}
theorem k_fix (C0 : k_C G p s m args meth c A cc own wsW nL ret nm) : CallFix p m c cc nL s args wsW own := ⟨C0.1, C0.2.1, C0.2.2.2.2.2.2.1, C0.2.2.2.2.1, C0.2.2.2.1⟩
theorem k_runS (C0 : k_C G p s m args meth c A cc own wsW nL ret nm) (hM : Met l y wsY rm (va_Pc As (k_PC G wc H.size)) Qc mc ms free) (cw : CallB R s args own index y bytes maxL retY wsY rm mc ms n ∧ (Cond.static y).before args s = true) (hP : va_P G.1 vwCl ws H) (hD : va_D A ws) (hS : va_S A s.heap H locs) (isC : List Nat) (hC : isC.map (fun i => ws[i]?) = wc.map some) (hnd : va_nd isC = true)
    (hn : As.length = n) (hsize : ls.size = nL) (hstack : st0 = As.reverse ++ rest) (hW : (rest.map fun v => v.category).sum ≤ 8) (hdg : decode cc pc = .ok (.invokestatic index, 3)) (hf : cells + mc ≤ R.cells ∧ slots + ms ≤ R.slots) :
    va_Run p l e R s m args below meth c H locs cells slots mc ms (F0 m pc ls st0) rest (Qc As.toArray) free :=
  va_runS (k_fix C0) hM cw (k_pre C0 hP hD hS isC hC hnd) rfl hn hsize hstack (lv_room hW) hdg hf
theorem k_runSN (C0 : k_C G p s m args meth c A cc own wsW nL ret nm) (hM : Met l y wsY rm (va_Pc As (k_PC G wc H.size)) Qc mc ms free) (cw : va_CN R s args own index y host bytes maxL retY wsY rm mc ms n) (hst : (Cond.static y).before args s = true) (hP : va_P G.1 vwCl ws H) (hD : va_D A ws) (hS : va_S A s.heap H locs) (isC : List Nat) (hC : isC.map (fun i => ws[i]?) = wc.map some) (hnd : va_nd isC = true)
    (hn : As.length = n) (hsize : ls.size = nL) (hstack : st0 = As.reverse ++ rest) (hW : (rest.map fun v => v.category).sum ≤ 8) (hdg : decode cc pc = .ok (.invokestatic index, 3)) (hf : cells + mc ≤ R.cells ∧ slots + ms ≤ R.slots) :
    va_Run p l e R s m args below meth c H locs cells slots mc ms (F0 m pc ls st0) rest (Qc As.toArray) free :=
  va_runSN (k_fix C0) hM ⟨cw, hst, trivial⟩ (k_pre C0 hP hD hS isC hC hnd) rfl hn hsize hstack (lv_room hW) hdg hf
theorem k_runV (C0 : k_C G p s m args meth c A cc own wsW nL ret nm) (hM : Met l y wsY rm (va_Pc (.ref b :: As) (k_PC G wc H.size)) Qc mc ms free) (cw : CallW R s args own C index y bytes maxL retY wsY rm mc ms n) (hP : va_P G.1 vwCl ws H) (hD : va_D A ws) (hS : va_S A s.heap H locs) (isC : List Nat) (hC : isC.map (fun i => ws[i]?) = wc.map some) (hnd : va_nd isC = true)
    (q0 : Nat) {ci : Nat} {fs : List Value} {qc : vw_C} (hc : vwCl[ci]? = some qc) (hq : qc.1 = C) (he : ws[q0]? = some (b, .inr (ci, fs)))
    (hn : As.length = n) (hsize : ls.size = nL) (hstack : st0 = As.reverse ++ .ref b :: rest) (hW : (rest.map fun v => v.category).sum ≤ 8) (hdg : decode cc pc = .ok (.invokevirtual index, 3)) (hf : cells + mc ≤ R.cells ∧ slots + ms ≤ R.slots) :
    va_Run p l e R s m args below meth c H locs cells slots mc ms (F0 m pc ls st0) rest (Qc (Value.ref b :: As).toArray) free := by
  have hpre := k_pre (As := .ref b :: As) C0 hP hD hS isC hC hnd
  subst hq
  exact va_runV (k_fix C0) hM cw ⟨hpre.1, va_recv C0.2.2.2.2.2.2.2.2.1.1 hP hc he, hpre.2⟩ rfl hn hsize hstack (lv_room hW) hdg hf
theorem k_runVR (C0 : k_C G p s m args meth c A cc own wsW nL ret nm) (hM : Met l y wsY rm (va_Pc (.ref b :: As) (k_PC G wc H.size)) Qc mc ms free) (cw : CallW R s args own C index y bytes maxL retY wsY rm mc ms n) (hP : va_P G.1 vwCl ws H) (hD : va_D A ws) (hS : va_S A s.heap H locs) (isC : List Nat) (hC : isC.map (fun i => ws[i]?) = wc.map some) (hnd : va_nd isC = true)
    (hrec : ∃ cell : Cell, H[b]? = some cell ∧ cell.vm.isStatics = false ∧ s.vm.findClass C = some cell.cls)
    (hn : As.length = n) (hsize : ls.size = nL) (hstack : st0 = As.reverse ++ .ref b :: rest) (hW : (rest.map fun v => v.category).sum ≤ 8) (hdg : decode cc pc = .ok (.invokevirtual index, 3)) (hf : cells + mc ≤ R.cells ∧ slots + ms ≤ R.slots) :
    va_Run p l e R s m args below meth c H locs cells slots mc ms (F0 m pc ls st0) rest (Qc (Value.ref b :: As).toArray) free := by
  have hpre := k_pre (As := .ref b :: As) C0 hP hD hS isC hC hnd
  exact va_runV (k_fix C0) hM cw ⟨hpre.1, hrec, hpre.2⟩ rfl hn hsize hstack (lv_room hW) hdg hf
theorem k_runVN (C0 : k_C G p s m args meth c A cc own wsW nL ret nm) (hM : Met l y wsY rm (va_Pc (.ref b :: As) (k_PC G wc H.size)) Qc mc ms free) (cw : va_CN R s args own index y host bytes maxL retY wsY rm mc ms n) (hin : (Cond.instanceMethod y).before args s = true) (hse : (Cond.selects C y y).before args s = true) (hP : va_P G.1 vwCl ws H) (hD : va_D A ws) (hS : va_S A s.heap H locs) (isC : List Nat) (hC : isC.map (fun i => ws[i]?) = wc.map some) (hnd : va_nd isC = true)
    (q0 : Nat) {ci : Nat} {fs : List Value} {qc : vw_C} (hc : vwCl[ci]? = some qc) (hq : qc.1 = C) (he : ws[q0]? = some (b, .inr (ci, fs)))
    (hn : As.length = n) (hsize : ls.size = nL) (hstack : st0 = As.reverse ++ .ref b :: rest) (hW : (rest.map fun v => v.category).sum ≤ 8) (hdg : decode cc pc = .ok (.invokevirtual index, 3)) (hf : cells + mc ≤ R.cells ∧ slots + ms ≤ R.slots) :
    va_Run p l e R s m args below meth c H locs cells slots mc ms (F0 m pc ls st0) rest (Qc (Value.ref b :: As).toArray) free := by
  have hpre := k_pre (As := .ref b :: As) C0 hP hD hS isC hC hnd
  subst hq
  exact va_runVN (k_fix C0) hM ⟨cw, hin, hse⟩ ⟨hpre.1, va_recv C0.2.2.2.2.2.2.2.2.1.1 hP hc he, hpre.2⟩ rfl hn hsize hstack (lv_room hW) hdg hf
theorem k_runI (C0 : k_C G p s m args meth c A cc own wsW nL ret nm) (hM : Met l y wsY rm (va_Pc (.ref b :: As) (k_PC G wc H.size)) Qc mc ms free) (cw : CallB R s args own index y bytes maxL none wsY rm mc ms n ∧ y.name = "<init>" ∧ (Cond.instanceMethod y).before args s = true) (hP : va_P G.1 vwCl ws H) (hD : va_D A ws) (hS : va_S A s.heap H locs) (isC : List Nat) (hC : isC.map (fun i => ws[i]?) = wc.map some) (hnd : va_nd isC = true)
    (hn : As.length = n) (hsize : ls.size = nL) (hstack : st0 = As.reverse ++ .ref b :: rest) (hW : (rest.map fun v => v.category).sum ≤ 8) (hdg : decode cc pc = .ok (.invokespecial index, 3)) (hf : cells + mc ≤ R.cells ∧ slots + ms ≤ R.slots) :
    va_Run p l e R s m args below meth c H locs cells slots mc ms (F0 m pc ls st0) rest (Qc (Value.ref b :: As).toArray) free :=
  va_runI (k_fix C0) hM cw (k_pre (As := .ref b :: As) C0 hP hD hS isC hC hnd) rfl hn hsize hstack (lv_room hW) hdg hf
theorem k_runIN (C0 : k_C G p s m args meth c A cc own wsW nL ret nm) (hM : Met l y wsY rm (va_Pc (.ref b :: As) (k_PC G wc H.size)) Qc mc ms free) (cw : va_CN R s args own index y host bytes maxL none wsY rm mc ms n) (hy1 : y.name = "<init>") (hin : (Cond.instanceMethod y).before args s = true) (hP : va_P G.1 vwCl ws H) (hD : va_D A ws) (hS : va_S A s.heap H locs) (isC : List Nat) (hC : isC.map (fun i => ws[i]?) = wc.map some) (hnd : va_nd isC = true)
    (hn : As.length = n) (hsize : ls.size = nL) (hstack : st0 = As.reverse ++ .ref b :: rest) (hW : (rest.map fun v => v.category).sum ≤ 8) (hdg : decode cc pc = .ok (.invokespecial index, 3)) (hf : cells + mc ≤ R.cells ∧ slots + ms ≤ R.slots) :
    va_Run p l e R s m args below meth c H locs cells slots mc ms (F0 m pc ls st0) rest (Qc (Value.ref b :: As).toArray) free :=
  va_runIN (k_fix C0) hM ⟨cw, hy1, hin⟩ (k_pre (As := .ref b :: As) C0 hP hD hS isC hC hnd) rfl hn hsize hstack (lv_room hW) hdg hf
theorem k_pick (is : List Nat) (h : is.all (fun i => Nat.blt i ws.length) = true) : is.map (fun i => ws[i]?) = (is.filterMap (fun i => ws[i]?)).map some := by
  induction is with
  | nil => rfl
  | cons a t ih =>
    simp only [List.all_cons, Bool.and_eq_true, Nat.blt_eq] at h
    rw [List.map_cons, List.filterMap_cons, List.getElem?_eq_getElem h.1, List.map_cons, ih h.2]
/-- behind a call: the world in its own order again -/
theorem k_back {S : Type} {w1 : S → va_W} {H1 : Heap} (u : S) (C0 : k_C G p s m args meth c A cc own wsW nL ret nm) (hP : va_P G.1 vwCl ws H) (hD : va_D A ws) (hS : va_S A s.heap H locs) (isC isR : List Nat) (hC : isC.map (fun i => ws[i]?) = wc.map some) (hR : isR.all (fun i => Nat.blt i ws.length) = true) (hn : va_nd isR = true) (hdis : ∀ i ∈ isR, i ∉ isC) (perm : List Nat) (hpn : va_nd perm = true) (hperm : perm.map (fun i => (isR.filterMap (fun i => ws[i]?) ++ w1 u)[i]?) = ws'.map some)
    (hk : ∀ q : Nat, q < H.size → ¬ va_A wc H.size q → H1[q]? = H[q]?) (hB : va_P G.1 vwCl (w1 u) H1 ∧ va_D (va_A wc H.size) (w1 u)) : va_P G.1 vwCl ws' H1 ∧ va_D A ws' := by
  obtain ⟨hP2, hD2⟩ := va_join (wr := isR.filterMap (fun i => ws[i]?)) hP hD isC isR hC (k_pick isR hR) hn hdis hk (va_free hD hS C0.2.2.2.2.2.2.2.1 isC hC) hB.1 hB.2
  refine ⟨fun k q hk => ?_, hD2.sub perm hpn hperm⟩
  have h1 : (perm.map (fun i => (isR.filterMap (fun i => ws[i]?) ++ w1 u)[i]?))[k]? = some (some q) := by rw [hperm, List.getElem?_map, hk]; rfl
  rw [List.getElem?_map] at h1
  cases hi : perm[k]? with
  | none => rw [hi] at h1; cases h1
  | some i => rw [hi] at h1; exact hP2 i q (Option.some.inj h1)
variable {ax : Array Value}
theorem k_calli {S : Type} {w1 w2 : S → va_W} {r0 : Int32} (C0 : k_C G p s m args meth c A cc own wsW nL ret nm) (hr : va_Run p l e R s m args below meth c H locs cells slots mc ms (F0 m pc ls st0) rest (k_Qi G (va_A wc H.size) r0 w1 ax) (va_A wc H.size)) (hP : va_P G.1 vwCl ws H) (hD : va_D A ws) (hS : va_S A s.heap H locs) (isC isR : List Nat) (hC : isC.map (fun i => ws[i]?) = wc.map some) (hR : isR.all (fun i => Nat.blt i ws.length) = true) (hn : va_nd isR = true) (hdis : ∀ i ∈ isR, i ∉ isC) (perm : List Nat) (hpn : va_nd perm = true) (hperm : ∀ u : S, perm.map (fun i => (isR.filterMap (fun i => ws[i]?) ++ w1 u)[i]?) = (w2 u).map some)
    (kk : ∀ (u : S) (H1 : Heap) (locs1 : List Loc), va_P G.1 vwCl (w2 u) H1 → va_D A (w2 u) → va_S A s.heap H1 locs1 → W p l e R s m args below meth c H1 locs1 (cells + mc) (slots + ms) Q (F0 m (pc + 3) ls (.int r0 :: rest))) : W p l e R s m args below meth c H locs cells slots Q (F0 m pc ls st0) := by
  have hFc := va_free hD hS C0.2.2.2.2.2.2.2.1 isC hC
  refine va_calli hr hS (fun q _ h => hFc q h) hFc (fun r u t H1 locs1 ht hvm hw hB hz1 hk1 hS1 => ?_)
  rw [hw]
  obtain ⟨hP1, hD1⟩ := hB
  rw [ht] at hP1
  obtain ⟨a1, a2⟩ := k_back u C0 hP hD hS isC isR hC hR hn hdis perm hpn (hperm u) hk1 ⟨hP1, hD1⟩
  exact kk u H1 locs1 a1 a2 hS1
theorem k_calll {S : Type} {w1 w2 : S → va_W} {r0 : Int64} (C0 : k_C G p s m args meth c A cc own wsW nL ret nm) (hr : va_Run p l e R s m args below meth c H locs cells slots mc ms (F0 m pc ls st0) rest (k_Ql G (va_A wc H.size) r0 w1 ax) (va_A wc H.size)) (hP : va_P G.1 vwCl ws H) (hD : va_D A ws) (hS : va_S A s.heap H locs) (isC isR : List Nat) (hC : isC.map (fun i => ws[i]?) = wc.map some) (hR : isR.all (fun i => Nat.blt i ws.length) = true) (hn : va_nd isR = true) (hdis : ∀ i ∈ isR, i ∉ isC) (perm : List Nat) (hpn : va_nd perm = true) (hperm : ∀ u : S, perm.map (fun i => (isR.filterMap (fun i => ws[i]?) ++ w1 u)[i]?) = (w2 u).map some)
    (kk : ∀ (u : S) (H1 : Heap) (locs1 : List Loc), va_P G.1 vwCl (w2 u) H1 → va_D A (w2 u) → va_S A s.heap H1 locs1 → W p l e R s m args below meth c H1 locs1 (cells + mc) (slots + ms) Q (F0 m (pc + 3) ls (.long r0 :: rest))) : W p l e R s m args below meth c H locs cells slots Q (F0 m pc ls st0) := by
  have hFc := va_free hD hS C0.2.2.2.2.2.2.2.1 isC hC
  refine va_calll hr hS (fun q _ h => hFc q h) hFc (fun r u t H1 locs1 ht hvm hw hB hz1 hk1 hS1 => ?_)
  rw [hw]
  obtain ⟨hP1, hD1⟩ := hB
  rw [ht] at hP1
  obtain ⟨a1, a2⟩ := k_back u C0 hP hD hS isC isR hC hR hn hdis perm hpn (hperm u) hk1 ⟨hP1, hD1⟩
  exact kk u H1 locs1 a1 a2 hS1
theorem k_callv {S : Type} {w1 w2 : S → va_W} (C0 : k_C G p s m args meth c A cc own wsW nL ret nm) (hr : va_Run p l e R s m args below meth c H locs cells slots mc ms (F0 m pc ls st0) rest (k_Qv G (va_A wc H.size) w1 ax) (va_A wc H.size)) (hP : va_P G.1 vwCl ws H) (hD : va_D A ws) (hS : va_S A s.heap H locs) (isC isR : List Nat) (hC : isC.map (fun i => ws[i]?) = wc.map some) (hR : isR.all (fun i => Nat.blt i ws.length) = true) (hn : va_nd isR = true) (hdis : ∀ i ∈ isR, i ∉ isC) (perm : List Nat) (hpn : va_nd perm = true) (hperm : ∀ u : S, perm.map (fun i => (isR.filterMap (fun i => ws[i]?) ++ w1 u)[i]?) = (w2 u).map some)
    (kk : ∀ (u : S) (H1 : Heap) (locs1 : List Loc), va_P G.1 vwCl (w2 u) H1 → va_D A (w2 u) → va_S A s.heap H1 locs1 → W p l e R s m args below meth c H1 locs1 (cells + mc) (slots + ms) Q (F0 m (pc + 3) ls rest)) : W p l e R s m args below meth c H locs cells slots Q (F0 m pc ls st0) := by
  have hFc := va_free hD hS C0.2.2.2.2.2.2.2.1 isC hC
  refine va_callv hr hS (fun q _ h => hFc q h) hFc (fun u t H1 locs1 ht hvm hw hB hz1 hk1 hS1 => ?_)
  obtain ⟨hP1, hD1⟩ := hB
  rw [ht] at hP1
  obtain ⟨a1, a2⟩ := k_back u C0 hP hD hS isC isR hC hR hn hdis perm hpn (hperm u) hk1 ⟨hP1, hD1⟩
  exact kk u H1 locs1 a1 a2 hS1
/-- a callee without a world -/
theorem k_calli0 {r0 : Int32} (C0 : k_C G p s m args meth c A cc own wsW nL ret nm) (hr : va_Run p l e R s m args below meth c H locs cells slots 0 0 (F0 m pc ls st0) rest (k_Qi G (va_A [] H.size) r0 (fun (_ : Unit) => []) ax) (va_A [] H.size)) (hP : va_P G.1 vwCl ws H) (hS : va_S A s.heap H locs)
    (kk : ∀ (H1 : Heap) (locs1 : List Loc), va_P G.1 vwCl ws H1 → va_S A s.heap H1 locs1 → W p l e R s m args below meth c H1 locs1 cells slots Q (F0 m (pc + 3) ls (.int r0 :: rest))) : W p l e R s m args below meth c H locs cells slots Q (F0 m pc ls st0) := by
  have hFc : ∀ q, va_A [] H.size q → A q := fun q h => by
    rcases h with ⟨k, e, h⟩ | h
    · simp at h
    · exact C0.2.2.2.2.2.2.2.1 q (Nat.le_trans hS.1 h)
  refine va_calli hr hS (fun q _ h => hFc q h) hFc (fun r u t H1 locs1 ht hvm hw hB hz1 hk1 hS1 => ?_)
  rw [hw]
  exact kk H1 locs1 (hP.kept (fun k q hq => hk1 q.1 (hP k q hq).lt (fun z => by
    rcases z with ⟨k, e, h⟩ | h
    · simp at h
    · exact absurd (hP _ q hq).lt (Nat.not_lt.mpr h)))) hS1
theorem k_calll0 {r0 : Int64} (C0 : k_C G p s m args meth c A cc own wsW nL ret nm) (hr : va_Run p l e R s m args below meth c H locs cells slots 0 0 (F0 m pc ls st0) rest (k_Ql G (va_A [] H.size) r0 (fun (_ : Unit) => []) ax) (va_A [] H.size)) (hP : va_P G.1 vwCl ws H) (hS : va_S A s.heap H locs)
    (kk : ∀ (H1 : Heap) (locs1 : List Loc), va_P G.1 vwCl ws H1 → va_S A s.heap H1 locs1 → W p l e R s m args below meth c H1 locs1 cells slots Q (F0 m (pc + 3) ls (.long r0 :: rest))) : W p l e R s m args below meth c H locs cells slots Q (F0 m pc ls st0) := by
  have hFc : ∀ q, va_A [] H.size q → A q := fun q h => by
    rcases h with ⟨k, e, h⟩ | h
    · simp at h
    · exact C0.2.2.2.2.2.2.2.1 q (Nat.le_trans hS.1 h)
  refine va_calll hr hS (fun q _ h => hFc q h) hFc (fun r u t H1 locs1 ht hvm hw hB hz1 hk1 hS1 => ?_)
  rw [hw]
  exact kk H1 locs1 (hP.kept (fun k q hq => hk1 q.1 (hP k q hq).lt (fun z => by
    rcases z with ⟨k, e, h⟩ | h
    · simp at h
    · exact absurd (hP _ q hq).lt (Nat.not_lt.mpr h)))) hS1
theorem k_callv0 (C0 : k_C G p s m args meth c A cc own wsW nL ret nm) (hr : va_Run p l e R s m args below meth c H locs cells slots 0 0 (F0 m pc ls st0) rest (k_Qv G (va_A [] H.size) (fun (_ : Unit) => []) ax) (va_A [] H.size)) (hP : va_P G.1 vwCl ws H) (hS : va_S A s.heap H locs)
    (kk : ∀ (H1 : Heap) (locs1 : List Loc), va_P G.1 vwCl ws H1 → va_S A s.heap H1 locs1 → W p l e R s m args below meth c H1 locs1 cells slots Q (F0 m (pc + 3) ls rest)) : W p l e R s m args below meth c H locs cells slots Q (F0 m pc ls st0) := by
  have hFc : ∀ q, va_A [] H.size q → A q := fun q h => by
    rcases h with ⟨k, e, h⟩ | h
    · simp at h
    · exact C0.2.2.2.2.2.2.2.1 q (Nat.le_trans hS.1 h)
  refine va_callv hr hS (fun q _ h => hFc q h) hFc (fun u t H1 locs1 ht hvm hw hB hz1 hk1 hS1 => ?_)
  exact kk H1 locs1 (hP.kept (fun k q hq => hk1 q.1 (hP k q hq).lt (fun z => by
    rcases z with ⟨k, e, h⟩ | h
    · simp at h
    · exact absurd (hP _ q hq).lt (Nat.not_lt.mpr h)))) hS1
/-- a new array of numbers -/
theorem k_newa {atype : ArrayType} (C0 : k_C G p s m args meth c A cc own wsW nL ret nm) (harr : (Cond.arrayClass (newarray.typeOf atype)).before args s = true) {ty : FieldType} (hty : newarray.typeOf atype = ty) (t0 : Nat) {cT : ClassId} (ht : (k_tys G)[t0]? = some (cT, ty)) (hra : ∀ cA : ClassId, va_RA s cA ty → s.vm.findClass ("[" ++ ty.toString) = some cA) (hP : va_P G.1 vwCl ws H) (hD : va_D A ws) (hS : va_S A s.heap H locs)
    {n : Int32} {N : Nat} {a0 : vp_A} (ha : ∀ cA : ClassId, vp_cell cA a0 = arrV cA N (fun _ => defaultValue ty)) (hn : ¬ n < 0) (hN : n.toNatClampNeg = N) (hbytes : N * componentBytes ty ≤ 536870912) (hcells : cells + 1 ≤ R.cells) (hslots : slots + N ≤ R.slots) (hdg : decode cc pc = .ok (.newarray atype, 2))
    (kk : ∀ (q : Nat) (H1 : Heap), va_P G.1 vwCl (ws ++ [(q, .inl (cT, a0))]) H1 → va_D A (ws ++ [(q, .inl (cT, a0))]) → va_S A s.heap H1 locs → W p l e R s m args below meth c H1 locs (cells + 1) (slots + N) Q (F0 m (pc + 2) ls (.ref q :: rest))) : W p l e R s m args below meth c H locs cells slots Q (F0 m pc ls (.int n :: rest)) := by
  have hK := C0.2.2.2.2.2.2.2.2.1.1
  refine va_newa C0.1 C0.2.1 harr hty hK hP hD hS C0.2.2.2.2.2.2.2.1 ha hn hN hbytes hcells hslots hdg (fun q cA H1 hK1 hP1 hD1 hS1 => ?_)
  have h1 : va_RA s cA ty := (hK1.2 (k_tys G).length (cA, ty) (by simp)).2
  have h2 : va_RA s cT ty := (hK.2 t0 _ ht).2
  have e1 : cA = cT := Option.some.inj ((hra _ h1).symm.trans (hra _ h2))
  subst e1
  exact kk q H1 hP1 hD1 hS1
theorem k_retz {S : Type} {w1 : S → va_W} {r0 v : Int32} {ty : FieldType} (C0 : k_C G p s m args meth c A cc own wsW nL (some ty) nm) (hP : va_P G.1 vwCl ws H) (hD : va_D A ws) (hS : va_S A s.heap H locs) (u : S) (hw : ws = w1 u) (hv : v = r0) (hn : narrow ty (.int v) = .int v) (hdg : decode cc pc = .ok (.ireturn, 1)) : W p l e R s m args below meth c H locs cells slots (MQ below (k_Qi G A r0 w1) args s cells slots A) (F0 m pc ls [.int v]) := by
  subst hw; subst hv
  have hlocks := C0.2.2.2.2.2.1
  exact W.zret C0.1 C0.2.1 C0.2.2.1 hn (fun t ht hW => ⟨⟨v, u, rfl, rfl, by rw [ht]; exact hP, hD⟩, hS.F ht⟩) hS.2.2 hdg
end KB
theorem k_narc {v : Int32} (h : (v.toUInt32 % 65536).toInt32 = v) : narrow .char (.int v) = .int v := by
  have := pk_nc v
  rwa [h] at this
theorem k_zq {C n d : String} {A : Nat → Prop} {U : State} {H : Heap} (h : va_Zq C n d A U H) : ∃ v : Value, v.category = 1 ∧ va_Z C n d v A U H := by
  rcases h with h | ⟨t, h⟩
  · exact ⟨.null, rfl, h⟩
  · exact ⟨.ref t, rfl, h⟩
theorem k_nar01 {v : Int32} (h : v = 0 ∨ v = 1) : narrow .boolean (.int v) = .int v := by
  rcases h with rfl | rfl <;> rfl
/-- the words of the pure programs -/
def lt {α β : Type} (e : α) (k : α → Option β) : Option β := k e
def gd {β : Type} (c : Prop) [Decidable c] (x : Option β) : Option β := if c then x else none
def bd {α β : Type} (x : Option α) (k : α → Option β) : Option β := match x with
  | none => none
  | some a => k a
abbrev inR (i : Int32) (n : Nat) : Prop := ¬ (i < 0 ∨ n ≤ i.toNatClampNeg)
def kFU : Nat := 100000
theorem lt_inv {α β : Type} {e : α} {k : α → Option β} {o : Option β} (h : lt e k = o) : ∃ v, v = e ∧ k v = o := ⟨e, rfl, h⟩
theorem gd_inv {β : Type} {c : Prop} [Decidable c] {x : Option β} {o : β} (h : gd c x = some o) : c ∧ x = some o := by
  unfold gd at h
  by_cases hc : c
  · rw [if_pos hc] at h; exact ⟨hc, h⟩
  · rw [if_neg hc] at h; cases h
theorem bd_inv {α β : Type} {x : Option α} {k : α → Option β} {o : β} (h : bd x k = some o) : ∃ v, x = some v ∧ k v = some o := by
  cases x with
  | none => cases h
  | some a => exact ⟨a, rfl, h⟩
theorem if_t {c : Prop} [Decidable c] {α : Type} {a b o : α} (hc : c) (h : (if c then a else b) = o) : a = o := by rwa [if_pos hc] at h
theorem if_f {c : Prop} [Decidable c] {α : Type} {a b o : α} (hc : ¬ c) (h : (if c then a else b) = o) : b = o := by rwa [if_neg hc] at h
theorem lt_eq {α β : Type} (e : α) (k : α → Option β) : lt e k = k e := rfl
theorem gd_t {β : Type} {c : Prop} [Decidable c] (x : Option β) (h : c) : gd c x = x := if_pos h
theorem bd_some {α β : Type} (a : α) (k : α → Option β) : bd (some a) k = k a := rfl
theorem k_nw {U : State} (h : k_NW U) (i : Nat) {w : Cond} (hi : k_nest[i]? = some w) : va_Nw w U := h w (List.mem_of_getElem? hi)
theorem k_out4 {x : Int32} (h0 : ¬ x = 0) (h1 : ¬ x = 1) (h2 : ¬ x = 2) (h3 : ¬ x = 3) (h4 : ¬ x = 4) : x.toInt < 0 ∨ 4 < x.toInt := by
  have e0 : x.toInt ≠ 0 := fun h => h0 (Int32.toInt_inj.mp (h.trans (by decide)))
  have e1 : x.toInt ≠ 1 := fun h => h1 (Int32.toInt_inj.mp (h.trans (by decide)))
  have e2 : x.toInt ≠ 2 := fun h => h2 (Int32.toInt_inj.mp (h.trans (by decide)))
  have e3 : x.toInt ≠ 3 := fun h => h3 (Int32.toInt_inj.mp (h.trans (by decide)))
  have e4 : x.toInt ≠ 4 := fun h => h4 (Int32.toInt_inj.mp (h.trans (by decide)))
  omega
theorem k_out7 {x : Int32} (h0 : ¬ x = 0) (h1 : ¬ x = 1) (h2 : ¬ x = 2) (h3 : ¬ x = 3) (h4 : ¬ x = 4) (h5 : ¬ x = 5) (h6 : ¬ x = 6) (h7 : ¬ x = 7) : x.toInt < 0 ∨ 7 < x.toInt := by
  have e0 : x.toInt ≠ 0 := fun h => h0 (Int32.toInt_inj.mp (h.trans (by decide)))
  have e1 : x.toInt ≠ 1 := fun h => h1 (Int32.toInt_inj.mp (h.trans (by decide)))
  have e2 : x.toInt ≠ 2 := fun h => h2 (Int32.toInt_inj.mp (h.trans (by decide)))
  have e3 : x.toInt ≠ 3 := fun h => h3 (Int32.toInt_inj.mp (h.trans (by decide)))
  have e4 : x.toInt ≠ 4 := fun h => h4 (Int32.toInt_inj.mp (h.trans (by decide)))
  have e5 : x.toInt ≠ 5 := fun h => h5 (Int32.toInt_inj.mp (h.trans (by decide)))
  have e6 : x.toInt ≠ 6 := fun h => h6 (Int32.toInt_inj.mp (h.trans (by decide)))
  have e7 : x.toInt ≠ 7 := fun h => h7 (Int32.toInt_inj.mp (h.trans (by decide)))
  omega
theorem k_out8 {x : Int32} (h0 : ¬ x = 0) (h1 : ¬ x = 1) (h2 : ¬ x = 2) (h3 : ¬ x = 3) (h4 : ¬ x = 4) (h5 : ¬ x = 5) (h6 : ¬ x = 6) (h7 : ¬ x = 7) (h8 : ¬ x = 8) : x.toInt < 0 ∨ 8 < x.toInt := by
  have e0 : x.toInt ≠ 0 := fun h => h0 (Int32.toInt_inj.mp (h.trans (by decide)))
  have e1 : x.toInt ≠ 1 := fun h => h1 (Int32.toInt_inj.mp (h.trans (by decide)))
  have e2 : x.toInt ≠ 2 := fun h => h2 (Int32.toInt_inj.mp (h.trans (by decide)))
  have e3 : x.toInt ≠ 3 := fun h => h3 (Int32.toInt_inj.mp (h.trans (by decide)))
  have e4 : x.toInt ≠ 4 := fun h => h4 (Int32.toInt_inj.mp (h.trans (by decide)))
  have e5 : x.toInt ≠ 5 := fun h => h5 (Int32.toInt_inj.mp (h.trans (by decide)))
  have e6 : x.toInt ≠ 6 := fun h => h6 (Int32.toInt_inj.mp (h.trans (by decide)))
  have e7 : x.toInt ≠ 7 := fun h => h7 (Int32.toInt_inj.mp (h.trans (by decide)))
  have e8 : x.toInt ≠ 8 := fun h => h8 (Int32.toInt_inj.mp (h.trans (by decide)))
  omega
theorem k_out9 {x : Int32} (h0 : ¬ x = 0) (h1 : ¬ x = 1) (h2 : ¬ x = 2) (h3 : ¬ x = 3) (h4 : ¬ x = 4) (h5 : ¬ x = 5) (h6 : ¬ x = 6) (h7 : ¬ x = 7) (h8 : ¬ x = 8) (h9 : ¬ x = 9) : x.toInt < 0 ∨ 9 < x.toInt := by
  have e0 : x.toInt ≠ 0 := fun h => h0 (Int32.toInt_inj.mp (h.trans (by decide)))
  have e1 : x.toInt ≠ 1 := fun h => h1 (Int32.toInt_inj.mp (h.trans (by decide)))
  have e2 : x.toInt ≠ 2 := fun h => h2 (Int32.toInt_inj.mp (h.trans (by decide)))
  have e3 : x.toInt ≠ 3 := fun h => h3 (Int32.toInt_inj.mp (h.trans (by decide)))
  have e4 : x.toInt ≠ 4 := fun h => h4 (Int32.toInt_inj.mp (h.trans (by decide)))
  have e5 : x.toInt ≠ 5 := fun h => h5 (Int32.toInt_inj.mp (h.trans (by decide)))
  have e6 : x.toInt ≠ 6 := fun h => h6 (Int32.toInt_inj.mp (h.trans (by decide)))
  have e7 : x.toInt ≠ 7 := fun h => h7 (Int32.toInt_inj.mp (h.trans (by decide)))
  have e8 : x.toInt ≠ 8 := fun h => h8 (Int32.toInt_inj.mp (h.trans (by decide)))
  have e9 : x.toInt ≠ 9 := fun h => h9 (Int32.toInt_inj.mp (h.trans (by decide)))
  omega

theorem k_s0 {G : k_G} {A : Nat → Prop} {U : State} {H : Heap} (h : k_SF G A U H) : vk_R RX7 61 "lab" (k_tK G 0) U := h.2.2.2.2.2.1 0 ("ClosePacking$Reader", 61, "lab") rfl
theorem k_s1 {G : k_G} {A : Nat → Prop} {U : State} {H : Heap} (h : k_SF G A U H) : vk_R RX7 71 "stack" (k_tK G 1) U := h.2.2.2.2.2.1 1 ("ClosePacking$Reader", 71, "stack") rfl
theorem k_s2 {G : k_G} {A : Nat → Prop} {U : State} {H : Heap} (h : k_SF G A U H) : vk_R RX7 73 "unsure" (k_tK G 2) U := h.2.2.2.2.2.1 2 ("ClosePacking$Reader", 73, "unsure") rfl
theorem k_s3 {G : k_G} {A : Nat → Prop} {U : State} {H : Heap} (h : k_SF G A U H) : vk_R RX7 75 "agreed" (k_tK G 3) U := h.2.2.2.2.2.1 3 ("ClosePacking$Reader", 75, "agreed") rfl
theorem k_s4 {G : k_G} {A : Nat → Prop} {U : State} {H : Heap} (h : k_SF G A U H) : vk_R RX7 95 "near" (k_tK G 4) U := h.2.2.2.2.2.1 4 ("ClosePacking$Reader", 95, "near") rfl
theorem k_s5 {G : k_G} {A : Nat → Prop} {U : State} {H : Heap} (h : k_SF G A U H) : vk_R RX7 109 "second" (k_tK G 5) U := h.2.2.2.2.2.1 5 ("ClosePacking$Reader", 109, "second") rfl
theorem k_s6 {G : k_G} {A : Nat → Prop} {U : State} {H : Heap} (h : k_SF G A U H) : vk_R RX7 113 "third" (k_tK G 6) U := h.2.2.2.2.2.1 6 ("ClosePacking$Reader", 113, "third") rfl
theorem k_s7 {G : k_G} {A : Nat → Prop} {U : State} {H : Heap} (h : k_SF G A U H) : vk_R RX7 117 "growth" (k_tK G 7) U := h.2.2.2.2.2.1 7 ("ClosePacking$Reader", 117, "growth") rfl
