/-! THE START: what the frame of every contract asks (k_X) holds at the law's entry -/
def k_fl : List Cond := flatC (Jvm.Cond.and given_1 narrow_1)
def k_bs : List Nat := [17, 24, 34, 46, 59, 71, 86, 101]
def k_ps : List Nat := [919, 979, 980, 981, 990, 1003, 1004, 1005]
def k_tm (i : Nat) : Term := Term.string (k_str.getD i ("", 0, "")).1 (k_str.getD i ("", 0, "")).2.1
theorem k_fl_ex : ∀ i, i < 8 → k_fl[k_bs.getD i 0]? = some (Cond.exactly (k_tm i) "java/lang/String") := by decide +kernel
theorem k_fl_co : ∀ i, i < 8 → k_fl[k_bs.getD i 0 + 1]? = some (Cond.eq (.field (k_tm i) "java/lang/String" "coder" "B") (.int 0)) := by decide +kernel
theorem k_fl_ar : ∀ i, i < 8 → k_fl[k_bs.getD i 0 + 2]? = some (Cond.arrayOf (.field (k_tm i) "java/lang/String" "value" "[B") .byte) := by decide +kernel
theorem k_fl_le : ∀ i, i < 8 → k_fl[k_bs.getD i 0 + 3]? = some (Cond.eq (.length (.field (k_tm i) "java/lang/String" "value" "[B")) (.int (Int32.ofNat (k_len.getD i 0)))) := by decide +kernel
theorem k_fl_el : ∀ i, i < 8 → ∀ j, j < k_len.getD i 0 → k_fl[k_bs.getD i 0 + 4 + j]? = some (Cond.eq (.elem (.field (k_tm i) "java/lang/String" "value" "[B") (.int (Int32.ofNat j))) (.int ((k_byt.getD i []).getD j 0))) := by decide +kernel
theorem k_tb_sr : ∀ i, i < 8 → lw_tbl[k_ps.getD i 0]? = some (Cond.stringRef (k_str.getD i ("", 0, "")).1 (k_str.getD i ("", 0, "")).2.1 (k_str.getD i ("", 0, "")).2.2) := by decide +kernel
theorem k_len_lt : ∀ i, i < 8 → k_len.getD i 0 < 2 ^ 31 := by decide +kernel
theorem k_in {ws : List Cond} (ps : List Nat) (h : ws = ps.filterMap (fun i => lw_tbl[i]?)) : ∀ w ∈ ws, w ∈ lw_tbl := by
  intro w hw
  rw [h] at hw
  obtain ⟨i, -, hi⟩ := List.mem_filterMap.mp hw
  exact List.mem_of_getElem? hi
theorem k_nest_in : ∀ w ∈ k_nest, w ∈ lw_tbl := k_in [112, 132, 152, 169, 182, 219, 58, 1093, 800, 681, 815, 825, 224, 1039, 1045, 510, 515, 464, 465, 345, 805, 241, 140, 159, 120, 227, 196, 194, 247, 255, 238, 230, 233, 236, 64, 88, 81, 253, 257, 242, 259, 261, 249, 251, 244, 118, 228, 231, 234, 237, 240, 119, 226, 246, 254] (by decide +kernel)
theorem k_nest_on : k_nest.all Cond.onTables = true := by decide +kernel
theorem k_u_RX0 : ∀ w ∈ u_ws RX0 TX0 4, w ∈ lw_tbl := k_in [141, 143, 145, 147] (by decide +kernel)
theorem k_i_RX0 : Cond.instantiable RX0 4 ∈ lw_tbl := List.mem_of_getElem? (i := 131) (by decide +kernel)
theorem k_u_RX3 : ∀ w ∈ u_ws RX3 TX3 3, w ∈ lw_tbl := k_in [160, 162, 164] (by decide +kernel)
theorem k_i_RX3 : Cond.instantiable RX3 3 ∈ lw_tbl := List.mem_of_getElem? (i := 151) (by decide +kernel)
theorem k_u_RX4 : ∀ w ∈ u_ws RX4 TX4 14, w ∈ lw_tbl := k_in [262, 264, 266, 268, 270, 272, 274, 276, 278, 280, 282, 284, 286, 288] (by decide +kernel)
theorem k_i_RX4 : Cond.instantiable RX4 14 ∈ lw_tbl := List.mem_of_getElem? (i := 218) (by decide +kernel)
theorem k_u_RX5 : ∀ w ∈ u_ws RX5 TX5 9, w ∈ lw_tbl := k_in [197, 199, 201, 203, 205, 207, 209, 211, 213] (by decide +kernel)
theorem k_i_RX5 : Cond.instantiable RX5 9 ∈ lw_tbl := List.mem_of_getElem? (i := 181) (by decide +kernel)
theorem k_u_RX6 : ∀ w ∈ u_ws RX6 TX6 2, w ∈ lw_tbl := k_in [175, 177] (by decide +kernel)
theorem k_i_RX6 : Cond.instantiable RX6 2 ∈ lw_tbl := List.mem_of_getElem? (i := 168) (by decide +kernel)
theorem k_u_RX7 : ∀ w ∈ u_ws RX7 TX7 10, w ∈ lw_tbl := k_in [89, 91, 93, 95, 97, 99, 101, 103, 105, 107] (by decide +kernel)
theorem k_i_RX7 : Cond.instantiable RX7 10 ∈ lw_tbl := List.mem_of_getElem? (i := 72) (by decide +kernel)
theorem k_u_RX9 : ∀ w ∈ u_ws RX9 TX9 3, w ∈ lw_tbl := k_in [122, 124, 126] (by decide +kernel)
theorem k_i_RX9 : Cond.instantiable RX9 3 ∈ lw_tbl := List.mem_of_getElem? (i := 111) (by decide +kernel)
theorem k_u_RX10 : ∀ w ∈ u_ws RX10 TX10 2, w ∈ lw_tbl := k_in [65, 67] (by decide +kernel)
theorem k_i_RX10 : Cond.instantiable RX10 2 ∈ lw_tbl := List.mem_of_getElem? (i := 57) (by decide +kernel)
theorem k_u_RX11 : ∀ w ∈ u_ws RX11 TX11 12, w ∈ lw_tbl := k_in [304, 306, 308, 310, 312, 314, 316, 318, 320, 322, 324, 326] (by decide +kernel)
theorem k_i_RX11 : Cond.instantiable RX11 12 ∈ lw_tbl := List.mem_of_getElem? (i := 49) (by decide +kernel)
theorem k_kn {args : Array Value} {s : State} (hts : ∀ w ∈ lw_tbl, w.before args s = true) : ∀ q ∈ vwCl, ∃ (cC : ClassId) (iS : Nat → Nat), u_Kn s q.1 q.2.1 q.2.2 cC iS := by
  refine List.forall_mem_cons.mpr ⟨u_known (C := RX0) (T := TX0) (N := 4) (n := 4) hts k_u_RX0 (hts _ k_i_RX0), List.forall_mem_cons.mpr ⟨u_known (C := RX3) (T := TX3) (N := 3) (n := 3) hts k_u_RX3 (hts _ k_i_RX3), List.forall_mem_cons.mpr ⟨u_known (C := RX4) (T := TX4) (N := 14) (n := 14) hts k_u_RX4 (hts _ k_i_RX4), List.forall_mem_cons.mpr ⟨u_known (C := RX5) (T := TX5) (N := 9) (n := 9) hts k_u_RX5 (hts _ k_i_RX5), List.forall_mem_cons.mpr ⟨u_known (C := RX6) (T := TX6) (N := 2) (n := 2) hts k_u_RX6 (hts _ k_i_RX6), List.forall_mem_cons.mpr ⟨u_known (C := RX7) (T := TX7) (N := 10) (n := 10) hts k_u_RX7 (hts _ k_i_RX7), List.forall_mem_cons.mpr ⟨u_known (C := RX9) (T := TX9) (N := 3) (n := 3) hts k_u_RX9 (hts _ k_i_RX9), List.forall_mem_cons.mpr ⟨u_known (C := RX10) (T := TX10) (N := 2) (n := 2) hts k_u_RX10 (hts _ k_i_RX10), List.forall_mem_cons.mpr ⟨u_known (C := RX11) (T := TX11) (N := 12) (n := 12) hts k_u_RX11 (hts _ k_i_RX11), fun _ h => absurd h List.not_mem_nil⟩⟩⟩⟩⟩⟩⟩⟩⟩
theorem k_ar {args : Array Value} {s : State} {ty : FieldType} (h : (Cond.arrayClass ty).before args s = true) : ∃ cA : ClassId, ArrOfT s cA ty ∧ s.vm.findClass ("[" ++ ty.toString) = some cA := by
  have h' : (Cond.arrayClass ty).holds args s none s [] = true := h
  obtain ⟨cA, kA, comp, h1, h2, h3⟩ := Cond.arrayClass_spec h'
  exact ⟨cA, fun n z => ⟨fun k h => (by cases h), kA, h2, comp, h3⟩, h1⟩
theorem k_txt {args : Array Value} {s : State} {A : Nat → Prop} (hs : ∀ c ∈ k_fl, c.before args s = true) (hA : ∀ a : Nat, a < s.heap.size → ¬ A a) (i : Nat) (hi : i < 8) : ∃ q : Nat × Nat, (k_tm i).eval args s none [] s = some (.ref q.1) ∧ va_O "java/lang/String" q.1 A s s.heap ∧ va_OF "java/lang/String" "coder" "B" (.int 0) q.1 A s s.heap ∧ va_OF "java/lang/String" "value" "[B" (.ref q.2) q.1 A s s.heap ∧ va_T .byte q.2 (k_len.getD i 0) (fun j => .int ((k_byt.getD i []).getD j 0)) A s s.heap := by
  obtain ⟨adK, adV, hS, he⟩ := vk_Sof (args := args) (s := s) (N := 1) (tm := fun _ => k_tm i) (len := [k_len.getD i 0]) (byt := [k_byt.getD i []]) (A := A)
    (fun k hk => by obtain rfl : k = 0 := (by omega); exact k_len_lt i hi)
    (fun k hk => hs _ (List.mem_of_getElem? (k_fl_ex i hi)))
    (fun k hk => hs _ (List.mem_of_getElem? (k_fl_co i hi)))
    (fun k hk => hs _ (List.mem_of_getElem? (k_fl_ar i hi)))
    (fun k hk => by obtain rfl : k = 0 := (by omega); exact hs _ (List.mem_of_getElem? (k_fl_le i hi)))
    (fun k hk j hj => by obtain rfl : k = 0 := (by omega); exact hs _ (List.mem_of_getElem? (k_fl_el i hi j hj)))
    (fun k j h1 h2 h3 => absurd (show k = j by omega) h3) hA
  exact ⟨(adK 0, adV 0), he 0 Nat.one_pos, hS.1 0 Nat.one_pos⟩
theorem k_X_start {b L : Nat} {xs : Nat → Int32} {s : State} (hts : ∀ w ∈ lw_tbl, w.before #[Value.ref b] s = true) (hq : (Jvm.Cond.and given_1 narrow_1).before #[Value.ref b] s = true) (hX : va_X b L xs s s.heap) (hbl : b < s.heap.size) : ∃ G : k_G, k_X G (fun q : Nat => s.heap.size ≤ q) s s.heap ∧ k_xB G = b ∧ k_xL G = L ∧ k_xs G = xs := by
  obtain ⟨scr, x1, x2, x3, x4, x5⟩ := hX
  have hs : ∀ c ∈ k_fl, c.before #[Value.ref b] s = true := flat_of_before _ hq
  have hA : ∀ a : Nat, a < s.heap.size → ¬ (fun q : Nat => s.heap.size ≤ q) a := fun a h => Nat.not_le.mpr h
  obtain ⟨cB, b1, b2⟩ := k_ar (hts (.arrayClass .byte) (List.mem_of_getElem? (i := 70) (by decide +kernel)))
  obtain ⟨cI, i1, i2⟩ := k_ar (hts (.arrayClass .int) (List.mem_of_getElem? (i := 129) (by decide +kernel)))
  obtain ⟨cJ, j1, j2⟩ := k_ar (hts (.arrayClass .long) (List.mem_of_getElem? (i := 291) (by decide +kernel)))
  obtain ⟨cZ, z1, z2⟩ := k_ar (hts (.arrayClass .boolean) (List.mem_of_getElem? (i := 216) (by decide +kernel)))
  have hkn : ∀ c : Nat, ∃ z : ClassId × (Nat → Nat), ∀ q : vw_C, vwCl[c]? = some q → u_Kn s q.1 q.2.1 q.2.2 z.1 z.2 := by
    intro c
    cases hc : vwCl[c]? with
    | none => exact ⟨(cB, fun _ => 0), fun q h => by cases h⟩
    | some q =>
      obtain ⟨cC, iS, h⟩ := k_kn hts q (List.mem_of_getElem? hc)
      exact ⟨(cC, iS), fun q' h' => by cases h'; exact h⟩
  obtain ⟨dz, hdz⟩ := Classical.axiomOfChoice hkn
  have htx : ∀ i : Nat, ∃ q : Nat × Nat, i < 8 → ((k_tm i).eval #[Value.ref b] s none [] s = some (.ref q.1) ∧ va_O "java/lang/String" q.1 (fun q : Nat => s.heap.size ≤ q) s s.heap ∧ va_OF "java/lang/String" "coder" "B" (.int 0) q.1 (fun q : Nat => s.heap.size ≤ q) s s.heap ∧ va_OF "java/lang/String" "value" "[B" (.ref q.2) q.1 (fun q : Nat => s.heap.size ≤ q) s s.heap ∧ va_T .byte q.2 (k_len.getD i 0) (fun j => .int ((k_byt.getD i []).getD j 0)) (fun q : Nat => s.heap.size ≤ q) s s.heap) := by
    intro i
    by_cases hi : i < 8
    · obtain ⟨q, h⟩ := k_txt hs hA i hi
      exact ⟨q, fun _ => h⟩
    · exact ⟨(0, 0), fun h => absurd h hi⟩
  obtain ⟨ad, had⟩ := Classical.axiomOfChoice htx
  obtain ⟨tP, ht, hT⟩ := va_Tof (args := #[Value.ref b]) (s := s) (tm := .static "ClosePacking$Lines" "PRIMES" "[I") (ty := .int) (N := 5) (f := fun j => .int (k_prm.getD j 0)) (A := fun q : Nat => s.heap.size ≤ q) (by decide) (hs (.arrayOf (.static "ClosePacking$Lines" "PRIMES" "[I") .int) (List.mem_of_getElem? (i := 5) (by decide +kernel))) (va_eqt (hs (.eq (.length (.static "ClosePacking$Lines" "PRIMES" "[I")) (.int 5)) (List.mem_of_getElem? (i := 6) (by decide +kernel))))
    (fun j hj => by
      match j, hj with
      | 0, _ => exact va_eqt (hs (.eq (.elem (.static "ClosePacking$Lines" "PRIMES" "[I") (.int 0)) (.int 2)) (List.mem_of_getElem? (i := 7) (by decide +kernel)))
      | 1, _ => exact va_eqt (hs (.eq (.elem (.static "ClosePacking$Lines" "PRIMES" "[I") (.int 1)) (.int 3)) (List.mem_of_getElem? (i := 8) (by decide +kernel)))
      | 2, _ => exact va_eqt (hs (.eq (.elem (.static "ClosePacking$Lines" "PRIMES" "[I") (.int 2)) (.int 5)) (List.mem_of_getElem? (i := 9) (by decide +kernel)))
      | 3, _ => exact va_eqt (hs (.eq (.elem (.static "ClosePacking$Lines" "PRIMES" "[I") (.int 3)) (.int 7)) (List.mem_of_getElem? (i := 10) (by decide +kernel)))
      | 4, _ => exact va_eqt (hs (.eq (.elem (.static "ClosePacking$Lines" "PRIMES" "[I") (.int 4)) (.int 11)) (List.mem_of_getElem? (i := 11) (by decide +kernel)))) hA
  refine ⟨((fun c => (dz c).1, fun c => (dz c).2), cB, cI, cJ, cZ, fun i => (ad i).1, fun i => (ad i).2, tP, b, L, xs), ⟨⟨fun c q h => hdz c q h, fun k q h => ?_⟩, fun w hw => va_Nw.of (List.all_eq_true.mp k_nest_on w hw) (hts w (k_nest_in w hw)), ?_, hT, ?_, ?_, ⟨fun i hi => (had i hi).2, trivial⟩, fun i q h => ?_, scr, x1, x2, x3, Nat.le_of_eq x4.symm, (by rw [x4]), x5, hA b hbl⟩, rfl, rfl, rfl⟩
  · match k, h with
    | 0, h => cases h; exact ⟨b1, b2⟩
    | 1, h => cases h; exact ⟨i1, i2⟩
    | 2, h => cases h; exact ⟨j1, j2⟩
    | 3, h => cases h; exact ⟨z1, z2⟩
    | k + 4, h => simp [k_tys] at h
  · exact va_Zof (hts (.laysStatic "ClosePacking$Lines" "PRIMES" "[I") (List.mem_of_getElem? (i := 472) (by decide +kernel))) (hts (.initialized "ClosePacking$Lines") (List.mem_of_getElem? (i := 36) (by decide +kernel))) ht hA
  · exact va_Zof (hts (.laysStatic "java/lang/String" "COMPACT_STRINGS" "Z") (List.mem_of_getElem? (i := 936) (by decide +kernel))) (hts (.initialized "java/lang/String") (List.mem_of_getElem? (i := 39) (by decide +kernel))) (va_eqi (hs (.eq (.static "java/lang/String" "COMPACT_STRINGS" "Z") (.int 1)) (List.mem_of_getElem? (i := 12) (by decide +kernel)))) hA
  · exact va_Zqof (hts (.laysStatic "jdk/internal/util/Preconditions" "SIOOBE_FORMATTER" "Ljava/util/function/BiFunction;") (List.mem_of_getElem? (i := 952) (by decide +kernel))) (hts (.initialized "jdk/internal/util/Preconditions") (List.mem_of_getElem? (i := 41) (by decide +kernel))) (hs (.isRef (.static "jdk/internal/util/Preconditions" "SIOOBE_FORMATTER" "Ljava/util/function/BiFunction;")) (List.mem_of_getElem? (i := 13) (by decide +kernel))) hA
  · have hi : i < 8 := (List.getElem?_eq_some_iff.mp h).1
    have e : k_str.getD i ("", 0, "") = q := by rw [List.getD_eq_getElem?_getD, h]; rfl
    have h1 := hts _ (List.mem_of_getElem? (k_tb_sr i hi))
    have h2 := (had i hi).1
    unfold k_tm at h2
    rw [e] at h1 h2
    exact vk_R.of h1 h2

