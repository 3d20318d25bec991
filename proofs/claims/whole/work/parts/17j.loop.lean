/-! THE LAW: its loop -/
theorem lw_go {L j : Nat} (hL : L ≤ 3072) (hj : j ≤ L) (h : ¬ nI L - 6 < nI j) : j + 6 ≤ L := by
  rcases Nat.lt_or_ge L (j + 6) with q | q
  · refine absurd ?_ h
    have h6 : (6 : Int32).toInt = 6 := by decide
    rw [Int32.lt_iff_toInt_lt, Int32.toInt_sub, nI_toInt (show L < 2 ^ 31 by omega), nI_toInt (show j < 2 ^ 31 by omega), h6, Int.bmod_eq_of_le (by omega) (by omega)]
    omega
  · exact q
theorem lw_case (y : Int32) : (∃ k : Nat, k < 58 ∧ y = nI k) ∨ (y.toInt < 0 ∨ 57 < y.toInt) := by
  by_cases h : y.toInt < 0 ∨ 57 < y.toInt
  · exact Or.inr h
  · refine Or.inl ⟨y.toInt.toNat, by omega, Int32.toInt_inj.mp ?_⟩
    rw [nI_toInt (by omega)]
    omega
section LW
variable {p : Program} {l : Launch} {e : Env} {s : State} {m : MethodId} {below : List Frame} {meth : Method} {c : Code} {G : k_G} {b L : Nat} {xs : Nat → Int32} {hX hM q3 : Nat}
set_option maxHeartbeats 40000000 in
set_option maxRecDepth 100000 in
theorem lw_loop (hst : l.stackTraces = false) (C0 : lw_K G p s m b meth c) (hXs : va_X b L xs s s.heap) (hbl : b < s.heap.size) (hL : L ≤ 3072) : ∀ (n j : Nat), j ≤ L → L + 1 ≤ j + n → ∀ (wX wM : va_W) (f : Nat → Int64) (H : Heap) (locs : List Loc) (cells slots : Nat) (ls : Array Slot), lw_Inv G hX hM wX wM → va_P G.1 vwCl ((lw_O G q3 f ++ wM) ++ wX) H → va_D (fun q : Nat => s.heap.size ≤ q) ((lw_O G q3 f ++ wM) ++ wX) → va_S (fun q : Nat => s.heap.size ≤ q) s.heap H locs → lv_has ls 7 (lw_l b hX hM q3 (nI j)) → cells ≤ 100 + 10 * j → slots ≤ 30000 + 64 * j → W p l e room_1 s m #[Value.ref b] below meth c H locs cells slots (lw_Z below #[Value.ref b] s) (F0 m 23 ls []) := by
  have hx := C0.1
  have hb := C0.2.1
  have hr := C0.2.2.1
  have hlocks := C0.2.2.2.2.2.1
  have hbA : ¬ (fun q : Nat => s.heap.size ≤ q) b := Nat.not_le.mpr hbl
  intro n
  induction n with
  | zero =>
    intro j h1 h2
    exact absurd h2 (by omega)
  | succ n ih =>
    intro j hjL hjn wX wM f H locs cells slots ls hI hP hD hS hl hcl hsl
    refine lv_iload hx hb dL_law_23 (lv_at hl 4 rfl) ?_
    refine lv_aload_n hx hb dL_law_25 rfl (lv_at hl 0 rfl) ?_
    refine va_slen hx hb hXs hbl hbA hS dL_law_26 ?_
    refine lv_bipush (v := 6) hx hb dL_law_27 (by decide) ?_
    refine lv_isub hx hb dL_law_29 ?_
    refine lv_icmp_gt (tgt := 2103) hx hb dL_law_30 (by decide) (fun _ => ?_) (fun hc => ?_)
    · refine lv_iconst (v := 1) hx hb dL_law_2103 (by decide) ?_
      refine va_forget (fun q hq => hS.2.2 q hq) ?_
      refine W.widen (k := 601024) (n := 7293034) (by omega) (by omega) ?_
      exact lw_ret hx hb hr hlocks dL_law_2104
    · have hj : j + 6 ≤ L := lw_go hL hjL hc
      have hin : ∀ k : Nat, k < 6 → vp_in (nI j + nI k) L := fun k hk => by rw [nI_add]; exact vp_in_nI (by omega) (by omega)
      have h0 : vp_in (nI j) L := vp_in_nI (by omega) (by omega)
      have hc9 : cells + 10 ≤ 601024 := by omega
      have hs9 : slots + 64 ≤ 7293034 := by omega
      have K : ∀ (u v : va_W) (f1 : Nat → Int64) (ls1 : Array Slot) (H1 : Heap) (locs1 : List Loc), lw_Inv G hX hM u v → va_P G.1 vwCl ((lw_O G q3 f1 ++ v) ++ u) H1 → va_D (fun q : Nat => s.heap.size ≤ q) ((lw_O G q3 f1 ++ v) ++ u) → va_S (fun q : Nat => s.heap.size ≤ q) s.heap H1 locs1 → lv_has ls1 7 (lw_l b hX hM q3 (nI j)) → W p l e room_1 s m #[Value.ref b] below meth c H1 locs1 (cells + 10) (slots + 64) (lw_Z below #[Value.ref b] s) (F0 m 2097 ls1 []) := by
        intro u v f1 ls1 H1 locs1 hI hP hD hS hl
        refine lv_iinc (v := nI (j + 6)) (lv' := [(4, .int (nI (j + 6))), (0, .ref b), (1, .ref hX), (2, .ref hM), (3, .ref q3)]) hx hb dL_law_2097 hl (k := 4) rfl (nI_add j 6) (by decide) rfl (fun ls hl => ?_)
        refine lv_goto (tgt := 23) hx hb dL_law_2100 (by decide) ?_
        exact ih (j + 6) hj (by omega) u v f1 H1 locs1 _ _ ls hI hP hD hS (lv_sub hl [1, 2, 3, 4, 0] rfl) (by omega) (by omega)
      have K0 : ∀ (u v : va_W) (H1 : Heap) (locs1 : List Loc), lw_Inv G hX hM u v → va_P G.1 vwCl ((lw_O G q3 f ++ v) ++ u) H1 → va_D (fun q : Nat => s.heap.size ≤ q) ((lw_O G q3 f ++ v) ++ u) → va_S (fun q : Nat => s.heap.size ≤ q) s.heap H1 locs1 → W p l e room_1 s m #[Value.ref b] below meth c H1 locs1 (cells + 10) (slots + 64) (lw_Z below #[Value.ref b] s) (F0 m 2097 ls []) :=
        fun u v H1 locs1 a1 a2 a3 a4 => K u v f ls H1 locs1 a1 a2 a3 a4 hl
      refine lv_aload_n hx hb dL_law_33 rfl (lv_at hl 0 rfl) ?_
      refine lv_iload hx hb dL_law_34 (lv_at hl 4 rfl) ?_
      refine va_sld hx hb hXs hbl hbA hS h0 dL_law_36 ?_
      refine lv_bipush (v := 63) hx hb dL_law_37 (by decide) ?_
      refine lv_iand hx hb dL_law_39 ?_
      generalize xs (nI j).toNatClampNeg &&& 63 = y
      obtain ⟨k, hk, rfl⟩ | hk := lw_case y
      · by_cases q0 : k = 0
        · obtain rfl := q0
          exact lv_tableIn (off := 248) (tgt := 288) hx hb dL_law_40 (by decide +kernel) (by decide +kernel) (by decide +kernel) (by decide) (L_feed C0 hXs hbl hin hl hI hP hD hS hc9 hs9 K0)
        by_cases q1 : k = 1
        · obtain rfl := q1
          exact lv_tableIn (off := 321) (tgt := 361) hx hb dL_law_40 (by decide +kernel) (by decide +kernel) (by decide +kernel) (by decide) (L_lab C0 hXs hbl hin hl hI hP hD hS hc9 hs9 K0)
        by_cases q2 : k = 2
        · obtain rfl := q2
          exact lv_tableIn (off := 346) (tgt := 386) hx hb dL_law_40 (by decide +kernel) (by decide +kernel) (by decide +kernel) (by decide) (L_fault C0 hXs hbl hin hl hI hP hD hS hc9 hs9 K0)
        by_cases q3 : k = 3
        · obtain rfl := q3
          exact lv_tableIn (off := 359) (tgt := 399) hx hb dL_law_40 (by decide +kernel) (by decide +kernel) (by decide +kernel) (by decide) (L_where C0 hXs hbl hin hl hI hP hD hS hc9 hs9 K0)
        by_cases q4 : k = 4
        · obtain rfl := q4
          exact lv_tableIn (off := 372) (tgt := 412) hx hb dL_law_40 (by decide +kernel) (by decide +kernel) (by decide +kernel) (by decide) (L_stack C0 hXs hbl hin hl hI hP hD hS hc9 hs9 K0)
        by_cases q5 : k = 5
        · obtain rfl := q5
          exact lv_tableIn (off := 409) (tgt := 449) hx hb dL_law_40 (by decide +kernel) (by decide +kernel) (by decide +kernel) (by decide) (L_sum C0 hXs hbl hin hl hI hP hD hS hc9 hs9 K0)
        by_cases q6 : k = 6
        · obtain rfl := q6
          exact lv_tableIn (off := 434) (tgt := 474) hx hb dL_law_40 (by decide +kernel) (by decide +kernel) (by decide +kernel) (by decide) (L_layer C0 hXs hbl hin hl hI hP hD hS hc9 hs9 K0)
        by_cases q7 : k = 7
        · obtain rfl := q7
          exact lv_tableIn (off := 471) (tgt := 511) hx hb dL_law_40 (by decide +kernel) (by decide +kernel) (by decide +kernel) (by decide) (L_hex C0 hXs hbl hin hl hI hP hD hS hc9 hs9 K0)
        by_cases q8 : k = 8
        · obtain rfl := q8
          exact lv_tableIn (off := 508) (tgt := 548) hx hb dL_law_40 (by decide +kernel) (by decide +kernel) (by decide +kernel) (by decide) (L_run C0 hXs hbl hin hl hI hP hD hS hc9 hs9 K0)
        by_cases q9 : k = 9
        · obtain rfl := q9
          exact lv_tableIn (off := 545) (tgt := 585) hx hb dL_law_40 (by decide +kernel) (by decide +kernel) (by decide +kernel) (by decide) (L_agree C0 hXs hbl hin hl hI hP hD hS hc9 hs9 K0)
        by_cases q10 : k = 10
        · obtain rfl := q10
          exact lv_tableIn (off := 582) (tgt := 622) hx hb dL_law_40 (by decide +kernel) (by decide +kernel) (by decide +kernel) (by decide) (L_share C0 hXs hbl hin hl hI hP hD hS hc9 hs9 K0)
        by_cases q11 : k = 11
        · obtain rfl := q11
          exact lv_tableIn (off := 636) (tgt := 676) hx hb dL_law_40 (by decide +kernel) (by decide +kernel) (by decide +kernel) (by decide) (L_energy C0 hXs hbl hin hl hI hP hD hS hc9 hs9 K0)
        by_cases q12 : k = 12
        · obtain rfl := q12
          exact lv_tableIn (off := 661) (tgt := 701) hx hb dL_law_40 (by decide +kernel) (by decide +kernel) (by decide +kernel) (by decide) (L_calmest C0 hXs hbl hin hl hI hP hD hS hc9 hs9 K0)
        by_cases q13 : k = 13
        · obtain rfl := q13
          exact lv_tableIn (off := 674) (tgt := 714) hx hb dL_law_40 (by decide +kernel) (by decide +kernel) (by decide +kernel) (by decide) (L_out C0 hXs hbl hin hl hI hP hD hS hc9 hs9 K0)
        by_cases q14 : k = 14
        · obtain rfl := q14
          exact lv_tableIn (off := 711) (tgt := 751) hx hb dL_law_40 (by decide +kernel) (by decide +kernel) (by decide +kernel) (by decide) (L_outs C0 hXs hbl hin hl hI hP hD hS hc9 hs9 K0)
        by_cases q15 : k = 15
        · obtain rfl := q15
          exact lv_tableIn (off := 736) (tgt := 776) hx hb dL_law_40 (by decide +kernel) (by decide +kernel) (by decide +kernel) (by decide) (L_firstLine C0 hXs hbl hin hl hI hP hD hS hc9 hs9 K0)
        by_cases q16 : k = 16
        · obtain rfl := q16
          exact lv_tableIn (off := 761) (tgt := 801) hx hb dL_law_40 (by decide +kernel) (by decide +kernel) (by decide +kernel) (by decide) (L_sameLines C0 hXs hbl hin hl hI hP hD hS hc9 hs9 K0)
        by_cases q17 : k = 17
        · obtain rfl := q17
          exact lv_tableIn (off := 798) (tgt := 838) hx hb dL_law_40 (by decide +kernel) (by decide +kernel) (by decide +kernel) (by decide) (L_ground C0 hXs hbl hin hl hI hP hD hS hc9 hs9 K0)
        by_cases q18 : k = 18
        · obtain rfl := q18
          exact lv_tableIn (off := 823) (tgt := 863) hx hb dL_law_40 (by decide +kernel) (by decide +kernel) (by decide +kernel) (by decide) (L_groundRow C0 hXs hbl hin hl hI hP hD hS hc9 hs9 K0)
        by_cases q19 : k = 19
        · obtain rfl := q19
          exact lv_tableIn (off := 848) (tgt := 888) hx hb dL_law_40 (by decide +kernel) (by decide +kernel) (by decide +kernel) (by decide) (L_groundMany C0 hXs hbl hin hl hI hP hD hS hc9 hs9 K0)
        by_cases q20 : k = 20
        · obtain rfl := q20
          exact lv_tableIn (off := 873) (tgt := 913) hx hb dL_law_40 (by decide +kernel) (by decide +kernel) (by decide +kernel) (by decide) (L_groundBest C0 hXs hbl hin hl hI hP hD hS hc9 hs9 K0)
        by_cases q21 : k = 21
        · obtain rfl := q21
          exact lv_tableIn (off := 886) (tgt := 926) hx hb dL_law_40 (by decide +kernel) (by decide +kernel) (by decide +kernel) (by decide) (L_kinds C0 hXs hbl hin hl hI hP hD hS hc9 hs9 K0)
        by_cases q22 : k = 22
        · obtain rfl := q22
          exact lv_tableIn (off := 951) (tgt := 991) hx hb dL_law_40 (by decide +kernel) (by decide +kernel) (by decide +kernel) (by decide) (L_alike C0 hXs hbl hin hl hI hP hD hS hc9 hs9 K0)
        by_cases q23 : k = 23
        · obtain rfl := q23
          exact lv_tableIn (off := 1000) (tgt := 1040) hx hb dL_law_40 (by decide +kernel) (by decide +kernel) (by decide +kernel) (by decide) (L_least C0 hXs hbl hin hl hI hP hD hS hc9 hs9 K0)
        by_cases q24 : k = 24
        · obtain rfl := q24
          exact lv_tableIn (off := 1037) (tgt := 1077) hx hb dL_law_40 (by decide +kernel) (by decide +kernel) (by decide +kernel) (by decide) (L_manyAlike C0 hXs hbl hin hl hI hP hD hS hc9 hs9 K0)
        by_cases q25 : k = 25
        · obtain rfl := q25
          exact lv_tableIn (off := 1074) (tgt := 1114) hx hb dL_law_40 (by decide +kernel) (by decide +kernel) (by decide +kernel) (by decide) (L_slips C0 hXs hbl hin hl hI hP hD hS hc9 hs9 K0)
        by_cases q26 : k = 26
        · obtain rfl := q26
          exact lv_tableIn (off := 1123) (tgt := 1163) hx hb dL_law_40 (by decide +kernel) (by decide +kernel) (by decide +kernel) (by decide) (L_slipEnergy C0 hXs hbl hin hl hI hP hD hS hc9 hs9 K0)
        by_cases q27 : k = 27
        · obtain rfl := q27
          exact lv_tableIn (off := 1160) (tgt := 1200) hx hb dL_law_40 (by decide +kernel) (by decide +kernel) (by decide +kernel) (by decide) (L_weakest C0 hXs hbl hin hl hI hP hD hS hc9 hs9 K0)
        by_cases q28 : k = 28
        · obtain rfl := q28
          exact lv_tableIn (off := 1185) (tgt := 1225) hx hb dL_law_40 (by decide +kernel) (by decide +kernel) (by decide +kernel) (by decide) (L_relax C0 hXs hbl hin hl hI hP hD hS hc9 hs9 K0)
        by_cases q29 : k = 29
        · obtain rfl := q29
          exact lv_tableIn (off := 1210) (tgt := 1250) hx hb dL_law_40 (by decide +kernel) (by decide +kernel) (by decide +kernel) (by decide) (L_relaxed C0 hXs hbl hin hl hI hP hD hS hc9 hs9 K0)
        by_cases q30 : k = 30
        · obtain rfl := q30
          exact lv_tableIn (off := 1235) (tgt := 1275) hx hb dL_law_40 (by decide +kernel) (by decide +kernel) (by decide +kernel) (by decide) (L_pass C0 hXs hbl hin hl hI hP hD hS hc9 hs9 K0)
        by_cases q31 : k = 31
        · obtain rfl := q31
          exact lv_tableIn (off := 1272) (tgt := 1312) hx hb dL_law_40 (by decide +kernel) (by decide +kernel) (by decide +kernel) (by decide) (L_valley C0 hXs hbl hin hl hI hP hD hS hc9 hs9 K0)
        by_cases q32 : k = 32
        · obtain rfl := q32
          exact lv_tableIn (off := 1297) (tgt := 1337) hx hb dL_law_40 (by decide +kernel) (by decide +kernel) (by decide +kernel) (by decide) (L_faultEnergy C0 hXs hbl hin hl hI hP hD hS hc9 hs9 K0)
        by_cases q33 : k = 33
        · obtain rfl := q33
          exact lv_tableIn (off := 1334) (tgt := 1374) hx hb dL_law_40 (by decide +kernel) (by decide +kernel) (by decide +kernel) (by decide) (L_bestFault C0 hXs hbl hin hl hI hP hD hS hc9 hs9 K0)
        by_cases q34 : k = 34
        · obtain rfl := q34
          exact lv_tableIn (off := 1359) (tgt := 1399) hx hb dL_law_40 (by decide +kernel) (by decide +kernel) (by decide +kernel) (by decide) (L_differs C0 hXs hbl hin hl hI hP hD hS hc9 hs9 K0)
        by_cases q35 : k = 35
        · obtain rfl := q35
          exact lv_tableIn (off := 1396) (tgt := 1436) hx hb dL_law_40 (by decide +kernel) (by decide +kernel) (by decide +kernel) (by decide) (L_fits C0 hXs hbl hin hl hI hP hD hS hc9 hs9 K0)
        by_cases q36 : k = 36
        · obtain rfl := q36
          exact lv_tableIn (off := 1409) (tgt := 1449) hx hb dL_law_40 (by decide +kernel) (by decide +kernel) (by decide +kernel) (by decide) (L_fitAt C0 hXs hbl hin hl hI hP hD hS hc9 hs9 K0)
        by_cases q37 : k = 37
        · obtain rfl := q37
          exact lv_tableIn (off := 1434) (tgt := 1474) hx hb dL_law_40 (by decide +kernel) (by decide +kernel) (by decide +kernel) (by decide) (L_could C0 hXs hbl hin hl hI hP hD hS hc9 hs9 K0)
        by_cases q38 : k = 38
        · obtain rfl := q38
          exact lv_tableIn (off := 1447) (tgt := 1487) hx hb dL_law_40 (by decide +kernel) (by decide +kernel) (by decide +kernel) (by decide) (L_surely C0 hXs hbl hin hl hI hP hD hS hc9 hs9 K0)
        by_cases q39 : k = 39
        · obtain rfl := q39
          exact lv_tableIn (off := 1460) (tgt := 1500) hx hb dL_law_40 (by decide +kernel) (by decide +kernel) (by decide +kernel) (by decide) (L_ask C0 hXs hbl hin hl hI hP hD hS hc9 hs9 K0)
        by_cases q40 : k = 40
        · obtain rfl := q40
          exact lv_tableIn (off := 1473) (tgt := 1513) hx hb dL_law_40 (by decide +kernel) (by decide +kernel) (by decide +kernel) (by decide) (L_askLeaves C0 hXs hbl hin hl hI hP hD hS hc9 hs9 K0)
        by_cases q41 : k = 41
        · obtain rfl := q41
          exact lv_tableIn (off := 1486) (tgt := 1526) hx hb dL_law_40 (by decide +kernel) (by decide +kernel) (by decide +kernel) (by decide) (L_judge C0 hXs hbl hin hl hI hP hD hS hc9 hs9 K0)
        by_cases q42 : k = 42
        · obtain rfl := q42
          exact lv_tableIn (off := 1499) (tgt := 1539) hx hb dL_law_40 (by decide +kernel) (by decide +kernel) (by decide +kernel) (by decide) (L_odds C0 hXs hbl hin hl hI hP hD hS hc9 hs9 K0)
        by_cases q43 : k = 43
        · obtain rfl := q43
          exact lv_tableIn (off := 1565) (tgt := 1605) hx hb dL_law_40 (by decide +kernel) (by decide +kernel) (by decide +kernel) (by decide) (L_rowOdds C0 hXs hbl hin hl hI hP hD hS hc9 hs9 K0)
        by_cases q44 : k = 44
        · obtain rfl := q44
          exact lv_tableIn (off := 1619) (tgt := 1659) hx hb dL_law_40 (by decide +kernel) (by decide +kernel) (by decide +kernel) (by decide) (L_meanSum C0 hXs hbl hin hl hI hP hD hS hc9 hs9 K0)
        by_cases q45 : k = 45
        · obtain rfl := q45
          exact lv_tableIn (off := 1673) (tgt := 1713) hx hb dL_law_40 (by decide +kernel) (by decide +kernel) (by decide +kernel) (by decide) (L_grown C0 hXs hbl hin hl hI hP hD hS hc9 hs9 K0)
        by_cases q46 : k = 46
        · obtain rfl := q46
          exact lv_tableIn (off := 1710) (tgt := 1750) hx hb dL_law_40 (by decide +kernel) (by decide +kernel) (by decide +kernel) (by decide) (L_longestRun C0 hXs hbl hin hl hI hP hD hS hc9 hs9 K0)
        by_cases q47 : k = 47
        · obtain rfl := q47
          exact lv_tableIn (off := 1747) (tgt := 1787) hx hb dL_law_40 (by decide +kernel) (by decide +kernel) (by decide +kernel) (by decide) (L_slip C0 hXs hbl hin hl hI hP hD hS hc9 hs9 K0)
        by_cases q48 : k = 48
        · obtain rfl := q48
          exact lv_tableIn (off := 1784) (tgt := 1824) hx hb dL_law_40 (by decide +kernel) (by decide +kernel) (by decide +kernel) (by decide) (L_turn C0 hXs hbl hin hl hI hP hD hS hc9 hs9 K0)
        by_cases q49 : k = 49
        · obtain rfl := q49
          exact lv_tableIn (off := 1809) (tgt := 1849) hx hb dL_law_40 (by decide +kernel) (by decide +kernel) (by decide +kernel) (by decide) (L_twin C0 hXs hbl hin hl hI hP hD hS hc9 hs9 K0)
        by_cases q50 : k = 50
        · obtain rfl := q50
          exact lv_tableIn (off := 1834) (tgt := 1874) hx hb dL_law_40 (by decide +kernel) (by decide +kernel) (by decide +kernel) (by decide) (L_grow C0 hXs hbl hin hl hI hP hD hS hc9 hs9 K0)
        by_cases q51 : k = 51
        · obtain rfl := q51
          exact lv_tableIn (off := 1887) (tgt := 1927) hx hb dL_law_40 (by decide +kernel) (by decide +kernel) (by decide +kernel) (by decide) (L_cut C0 hXs hbl hin hl hI hP hD hS hc9 hs9 K0)
        by_cases q52 : k = 52
        · obtain rfl := q52
          exact lv_tableIn (off := 1912) (tgt := 1952) hx hb dL_law_40 (by decide +kernel) (by decide +kernel) (by decide +kernel) (by decide) (L_undo C0 hXs hbl hin hl hI hP hD hS hc9 hs9 K0)
        by_cases q53 : k = 53
        · obtain rfl := q53
          exact lv_tableIn (off := 1925) (tgt := 1965) hx hb dL_law_40 (by decide +kernel) (by decide +kernel) (by decide +kernel) (by decide) (L_image C0 hXs hbl hin hl hI hP hD hS hc9 hs9 K0)
        by_cases q54 : k = 54
        · obtain rfl := q54
          exact lv_tableIn (off := 1938) (tgt := 1978) hx hb dL_law_40 (by decide +kernel) (by decide +kernel) (by decide +kernel) (by decide) (L_back C0 hXs hbl hin hl hI hP hD hS hc9 hs9 K0)
        by_cases q55 : k = 55
        · obtain rfl := q55
          exact lv_tableIn (off := 1963) (tgt := 2003) hx hb dL_law_40 (by decide +kernel) (by decide +kernel) (by decide +kernel) (by decide) (L_led hst C0 hXs hbl hin hl hI hP hD hS hc9 hs9 K)
        by_cases q56 : k = 56
        · obtain rfl := q56
          exact lv_tableIn (off := 2019) (tgt := 2059) hx hb dL_law_40 (by decide +kernel) (by decide +kernel) (by decide +kernel) (by decide) (L_size C0 hXs hbl hin hl hI hP hD hS hc9 hs9 K0)
        by_cases q57 : k = 57
        · obtain rfl := q57
          exact lv_tableIn (off := 2044) (tgt := 2084) hx hb dL_law_40 (by decide +kernel) (by decide +kernel) (by decide +kernel) (by decide) (L_trouble C0 hXs hbl hin hl hI hP hD hS hc9 hs9 K0)
        exact absurd hk (by omega)
      · refine lv_tableOut (tgt := 2097) hx hb dL_law_40 hk (by decide) ?_
        refine W.widen (k := cells + 10) (n := slots + 64) (by omega) (by omega) ?_
        exact K0 wX wM H locs hI hP hD hS
end LW
