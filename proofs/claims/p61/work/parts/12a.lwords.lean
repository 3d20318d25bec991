/-! THE LAW'S WORDS: each word that a call wants is in the tables, once; then list by list -/
def kG (w : Cond) : Prop := w ∈ lw_tbl ∧ ((w.onTables && w.keeps) = true ∨ ∃ ty, w = .arrayClass ty)
theorem k_gc {w : Cond} {ws : List Cond} (hw : kG w) (h : GoodIn lw_tbl ws) : GoodIn lw_tbl (w :: ws) := List.forall_mem_cons.mpr ⟨hw, h⟩
theorem k_gn : GoodIn lw_tbl [] := fun _ h => absurd h List.not_mem_nil
theorem tk_0 : ∀ w ∈ tables_1, w ∈ lw_tbl := fun w h => List.mem_append_right _ h
theorem tk_1 : ∀ w ∈ tables_1_1, w ∈ lw_tbl := fun w h => tk_0 w (List.mem_append_left _ h)
theorem tk_2 : ∀ w ∈ tables_1_2, w ∈ lw_tbl := fun w h => tk_0 w (List.mem_append_right _ (List.mem_append_left _ h))
theorem tk_3 : ∀ w ∈ tables_1_3, w ∈ lw_tbl := fun w h => tk_0 w (List.mem_append_right _ (List.mem_append_right _ (List.mem_append_left _ h)))
theorem tk_4 : ∀ w ∈ tables_1_4, w ∈ lw_tbl := fun w h => tk_0 w (List.mem_append_right _ (List.mem_append_right _ (List.mem_append_right _ (List.mem_append_left _ h))))
theorem tk_5 : ∀ w ∈ tables_1_5, w ∈ lw_tbl := fun w h => tk_0 w (List.mem_append_right _ (List.mem_append_right _ (List.mem_append_right _ (List.mem_append_right _ (h)))))
theorem k_G_wsX00 : GoodIn lw_tbl wsX00 := goodIn_sub k_u_RX0 (by decide +kernel)
theorem k_G_wsX100 : GoodIn lw_tbl wsX100 := goodIn_sub k_u_RX10 (by decide +kernel)
theorem k_G_wsX110 : GoodIn lw_tbl wsX110 := goodIn_sub k_u_RX11 (by decide +kernel)
theorem k_G_wsX30 : GoodIn lw_tbl wsX30 := goodIn_sub k_u_RX3 (by decide +kernel)
theorem k_G_wsX40 : GoodIn lw_tbl wsX40 := goodIn_sub k_u_RX4 (by decide +kernel)
theorem k_G_wsX50 : GoodIn lw_tbl wsX50 := goodIn_sub k_u_RX5 (by decide +kernel)
theorem k_G_wsX60 : GoodIn lw_tbl wsX60 := goodIn_sub k_u_RX6 (by decide +kernel)
theorem k_G_wsX70 : GoodIn lw_tbl wsX70 := goodIn_sub k_u_RX7 (by decide +kernel)
theorem k_G_wsX90 : GoodIn lw_tbl wsX90 := goodIn_sub k_u_RX9 (by decide +kernel)
theorem wd_0 : kG (Cond.code yX11_init cX11_init 1 none) := ⟨tk_1 _ (List.mem_of_getElem? (i := 23) (by decide +kernel)), Or.inl rfl⟩
theorem wd_1 : kG (Cond.methodLink RX11 1 objectInit) := ⟨tk_1 _ (List.mem_of_getElem? (i := 24) (by decide +kernel)), Or.inl rfl⟩
theorem wd_2 : kG (Cond.instanceMethod objectInit) := ⟨tk_1 _ (List.mem_of_getElem? (i := 25) (by decide +kernel)), Or.inl rfl⟩
theorem wd_3 : kG (Cond.code objectInit ⟨#[0xb1]⟩ 1 none) := ⟨tk_1 _ (List.mem_of_getElem? (i := 26) (by decide +kernel)), Or.inl rfl⟩
theorem wd_4 : kG (Cond.classLink RX11 7 RX10) := ⟨tk_1 _ (List.mem_of_getElem? (i := 27) (by decide +kernel)), Or.inl rfl⟩
theorem wd_5 : kG (Cond.instantiable RX10 2) := ⟨tk_1 _ (List.mem_of_getElem? (i := 28) (by decide +kernel)), Or.inl rfl⟩
theorem wd_6 : kG (Cond.initialized RX10) := ⟨tk_1 _ (List.mem_of_getElem? (i := 2) (by decide +kernel)), Or.inl rfl⟩
theorem wd_7 : kG (Cond.fieldLink RX11 10 "ClosePacking" "tape" "LClosePacking$Tape;") := ⟨tk_2 _ (List.mem_of_getElem? (i := 23) (by decide +kernel)), Or.inl rfl⟩
theorem wd_8 : kG (Cond.classLink RX11 16 RX7) := ⟨tk_1 _ (List.mem_of_getElem? (i := 42) (by decide +kernel)), Or.inl rfl⟩
theorem wd_9 : kG (Cond.instantiable RX7 10) := ⟨tk_1 _ (List.mem_of_getElem? (i := 43) (by decide +kernel)), Or.inl rfl⟩
theorem wd_10 : kG (Cond.initialized RX7) := ⟨tk_1 _ (List.mem_of_getElem? (i := 3) (by decide +kernel)), Or.inl rfl⟩
theorem wd_11 : kG (Cond.fieldLink RX11 21 "ClosePacking" "reader" "LClosePacking$Reader;") := ⟨tk_2 _ (List.mem_of_getElem? (i := 24) (by decide +kernel)), Or.inl rfl⟩
theorem wd_12 : kG (Cond.classLink RX11 25 RX9) := ⟨tk_1 _ (List.mem_of_getElem? (i := 81) (by decide +kernel)), Or.inl rfl⟩
theorem wd_13 : kG (Cond.instantiable RX9 3) := ⟨tk_1 _ (List.mem_of_getElem? (i := 82) (by decide +kernel)), Or.inl rfl⟩
theorem wd_14 : kG (Cond.initialized RX9) := ⟨tk_1 _ (List.mem_of_getElem? (i := 4) (by decide +kernel)), Or.inl rfl⟩
theorem wd_15 : kG (Cond.fieldLink RX11 28 "ClosePacking" "now" "LClosePacking$Stacks;") := ⟨tk_2 _ (List.mem_of_getElem? (i := 25) (by decide +kernel)), Or.inl rfl⟩
theorem wd_16 : kG (Cond.classLink RX11 32 RX0) := ⟨tk_1 _ (List.mem_of_getElem? (i := 101) (by decide +kernel)), Or.inl rfl⟩
theorem wd_17 : kG (Cond.instantiable RX0 4) := ⟨tk_1 _ (List.mem_of_getElem? (i := 102) (by decide +kernel)), Or.inl rfl⟩
theorem wd_18 : kG (Cond.initialized RX0) := ⟨tk_1 _ (List.mem_of_getElem? (i := 5) (by decide +kernel)), Or.inl rfl⟩
theorem wd_19 : kG (Cond.fieldLink RX11 35 "ClosePacking" "acts" "LClosePacking$Acts;") := ⟨tk_2 _ (List.mem_of_getElem? (i := 26) (by decide +kernel)), Or.inl rfl⟩
theorem wd_20 : kG (Cond.classLink RX11 39 RX3) := ⟨tk_1 _ (List.mem_of_getElem? (i := 121) (by decide +kernel)), Or.inl rfl⟩
theorem wd_21 : kG (Cond.instantiable RX3 3) := ⟨tk_1 _ (List.mem_of_getElem? (i := 122) (by decide +kernel)), Or.inl rfl⟩
theorem wd_22 : kG (Cond.initialized RX3) := ⟨tk_1 _ (List.mem_of_getElem? (i := 6) (by decide +kernel)), Or.inl rfl⟩
theorem wd_23 : kG (Cond.fieldLink RX11 42 "ClosePacking" "images" "LClosePacking$Images;") := ⟨tk_2 _ (List.mem_of_getElem? (i := 27) (by decide +kernel)), Or.inl rfl⟩
theorem wd_24 : kG (Cond.classLink RX11 46 RX6) := ⟨tk_1 _ (List.mem_of_getElem? (i := 138) (by decide +kernel)), Or.inl rfl⟩
theorem gp_wsX11_init_r1 : GoodIn lw_tbl wsX11_init_r1 := k_gc wd_1 (k_gc wd_2 (k_gc wd_3 (k_gc wd_4 (k_gc wd_5 (k_gc wd_6 (k_gc wd_7 (k_gc wd_8 (k_gc wd_9 (k_gc wd_10 (k_gc wd_11 (k_gc wd_12 (k_gc wd_13 (k_gc wd_14 (k_gc wd_15 (k_gc wd_16 (k_gc wd_17 (k_gc wd_18 (k_gc wd_19 (k_gc wd_20 (k_gc wd_21 (k_gc wd_22 (k_gc wd_23 (k_gc wd_24 k_gn)))))))))))))))))))))))
theorem wd_25 : kG (Cond.instantiable RX6 2) := ⟨tk_1 _ (List.mem_of_getElem? (i := 139) (by decide +kernel)), Or.inl rfl⟩
theorem wd_26 : kG (Cond.initialized RX6) := ⟨tk_1 _ (List.mem_of_getElem? (i := 7) (by decide +kernel)), Or.inl rfl⟩
theorem wd_27 : kG (Cond.fieldLink RX11 49 "ClosePacking" "lines" "LClosePacking$Lines;") := ⟨tk_2 _ (List.mem_of_getElem? (i := 28) (by decide +kernel)), Or.inl rfl⟩
theorem wd_28 : kG (Cond.classLink RX11 53 RX5) := ⟨tk_1 _ (List.mem_of_getElem? (i := 151) (by decide +kernel)), Or.inl rfl⟩
theorem wd_29 : kG (Cond.instantiable RX5 9) := ⟨tk_1 _ (List.mem_of_getElem? (i := 152) (by decide +kernel)), Or.inl rfl⟩
theorem wd_30 : kG (Cond.initialized RX5) := ⟨tk_1 _ (List.mem_of_getElem? (i := 8) (by decide +kernel)), Or.inl rfl⟩
theorem wd_31 : kG (Cond.fieldLink RX11 56 "ClosePacking" "landscape" "LClosePacking$Landscape;") := ⟨tk_2 _ (List.mem_of_getElem? (i := 29) (by decide +kernel)), Or.inl rfl⟩
theorem wd_32 : kG (Cond.classLink RX11 60 RX4) := ⟨tk_1 _ (List.mem_of_getElem? (i := 188) (by decide +kernel)), Or.inl rfl⟩
theorem wd_33 : kG (Cond.instantiable RX4 14) := ⟨tk_1 _ (List.mem_of_getElem? (i := 189) (by decide +kernel)), Or.inl rfl⟩
theorem wd_34 : kG (Cond.initialized RX4) := ⟨tk_1 _ (List.mem_of_getElem? (i := 9) (by decide +kernel)), Or.inl rfl⟩
theorem wd_35 : kG (Cond.fieldLink RX11 63 "ClosePacking" "told" "LClosePacking$Lab;") := ⟨tk_2 _ (List.mem_of_getElem? (i := 30) (by decide +kernel)), Or.inl rfl⟩
theorem wd_36 : kG (Cond.fieldLink RX11 67 "ClosePacking" "draft" "LClosePacking$Lab;") := ⟨tk_2 _ (List.mem_of_getElem? (i := 31) (by decide +kernel)), Or.inl rfl⟩
theorem wd_37 : kG (Cond.instanceMethod yX10_init) := ⟨tk_1 _ (List.mem_of_getElem? (i := 30) (by decide +kernel)), Or.inl rfl⟩
theorem wd_38 : kG (Cond.code yX10_init cX10_init 1 none) := ⟨tk_1 _ (List.mem_of_getElem? (i := 31) (by decide +kernel)), Or.inl rfl⟩
theorem wd_39 : kG (Cond.methodLink RX10 1 objectInit) := ⟨tk_1 _ (List.mem_of_getElem? (i := 32) (by decide +kernel)), Or.inl rfl⟩
theorem wd_40 : kG (Cond.arrayClass .byte) := ⟨tk_1 _ (List.mem_of_getElem? (i := 41) (by decide +kernel)), Or.inr ⟨_, rfl⟩⟩
theorem wd_41 : kG (Cond.fieldLink RX10 9 "ClosePacking$Tape" "bytes" "[B") := ⟨tk_1 _ (List.mem_of_getElem? (i := 33) (by decide +kernel)), Or.inl rfl⟩
theorem wd_42 : kG (Cond.methodLink RX11 18 yX7_init) := ⟨tk_1 _ (List.mem_of_getElem? (i := 44) (by decide +kernel)), Or.inl rfl⟩
theorem wd_43 : kG (Cond.instanceMethod yX7_init) := ⟨tk_1 _ (List.mem_of_getElem? (i := 45) (by decide +kernel)), Or.inl rfl⟩
theorem wd_44 : kG (Cond.code yX7_init cX7_init 2 none) := ⟨tk_1 _ (List.mem_of_getElem? (i := 46) (by decide +kernel)), Or.inl rfl⟩
theorem wd_45 : kG (Cond.methodLink RX7 3 objectInit) := ⟨tk_1 _ (List.mem_of_getElem? (i := 47) (by decide +kernel)), Or.inl rfl⟩
theorem wd_46 : kG (Cond.fieldLink RX7 9 "ClosePacking$Reader" "tape" "LClosePacking$Tape;") := ⟨tk_1 _ (List.mem_of_getElem? (i := 48) (by decide +kernel)), Or.inl rfl⟩
theorem wd_47 : kG (Cond.instanceMethod yX9_init) := ⟨tk_1 _ (List.mem_of_getElem? (i := 84) (by decide +kernel)), Or.inl rfl⟩
theorem wd_48 : kG (Cond.code yX9_init cX9_init 1 none) := ⟨tk_1 _ (List.mem_of_getElem? (i := 85) (by decide +kernel)), Or.inl rfl⟩
theorem gp_wsX11_init_r2 : GoodIn lw_tbl wsX11_init_r2 := k_gc wd_25 (k_gc wd_26 (k_gc wd_27 (k_gc wd_28 (k_gc wd_29 (k_gc wd_30 (k_gc wd_31 (k_gc wd_32 (k_gc wd_33 (k_gc wd_34 (k_gc wd_35 (k_gc wd_36 (k_gc wd_37 (k_gc wd_38 (k_gc wd_39 (k_gc wd_40 (k_gc wd_41 (k_gc wd_42 (k_gc wd_43 (k_gc wd_44 (k_gc wd_45 (k_gc wd_46 (k_gc wd_47 (k_gc wd_48 k_gn)))))))))))))))))))))))
theorem wd_49 : kG (Cond.methodLink RX9 3 objectInit) := ⟨tk_1 _ (List.mem_of_getElem? (i := 86) (by decide +kernel)), Or.inl rfl⟩
theorem wd_50 : kG (Cond.arrayClass .int) := ⟨tk_1 _ (List.mem_of_getElem? (i := 100) (by decide +kernel)), Or.inr ⟨_, rfl⟩⟩
theorem wd_51 : kG (Cond.fieldLink RX9 9 "ClosePacking$Stacks" "rows" "[I") := ⟨tk_1 _ (List.mem_of_getElem? (i := 87) (by decide +kernel)), Or.inl rfl⟩
theorem wd_52 : kG (Cond.fieldLink RX9 15 "ClosePacking$Stacks" "lengths" "[I") := ⟨tk_1 _ (List.mem_of_getElem? (i := 88) (by decide +kernel)), Or.inl rfl⟩
theorem wd_53 : kG (Cond.instanceMethod yX0_init) := ⟨tk_1 _ (List.mem_of_getElem? (i := 104) (by decide +kernel)), Or.inl rfl⟩
theorem wd_54 : kG (Cond.code yX0_init cX0_init 1 none) := ⟨tk_1 _ (List.mem_of_getElem? (i := 105) (by decide +kernel)), Or.inl rfl⟩
theorem wd_55 : kG (Cond.methodLink RX0 3 objectInit) := ⟨tk_1 _ (List.mem_of_getElem? (i := 106) (by decide +kernel)), Or.inl rfl⟩
theorem wd_56 : kG (Cond.fieldLink RX0 9 "ClosePacking$Acts" "changed" "[I") := ⟨tk_1 _ (List.mem_of_getElem? (i := 107) (by decide +kernel)), Or.inl rfl⟩
theorem wd_57 : kG (Cond.fieldLink RX0 15 "ClosePacking$Acts" "rows" "[I") := ⟨tk_1 _ (List.mem_of_getElem? (i := 108) (by decide +kernel)), Or.inl rfl⟩
theorem wd_58 : kG (Cond.fieldLink RX0 18 "ClosePacking$Acts" "lengths" "[I") := ⟨tk_1 _ (List.mem_of_getElem? (i := 109) (by decide +kernel)), Or.inl rfl⟩
theorem wd_59 : kG (Cond.instanceMethod yX3_init) := ⟨tk_1 _ (List.mem_of_getElem? (i := 124) (by decide +kernel)), Or.inl rfl⟩
theorem wd_60 : kG (Cond.code yX3_init cX3_init 1 none) := ⟨tk_1 _ (List.mem_of_getElem? (i := 125) (by decide +kernel)), Or.inl rfl⟩
theorem wd_61 : kG (Cond.methodLink RX3 3 objectInit) := ⟨tk_1 _ (List.mem_of_getElem? (i := 126) (by decide +kernel)), Or.inl rfl⟩
theorem wd_62 : kG (Cond.fieldLink RX3 9 "ClosePacking$Images" "rows" "[I") := ⟨tk_1 _ (List.mem_of_getElem? (i := 127) (by decide +kernel)), Or.inl rfl⟩
theorem wd_63 : kG (Cond.fieldLink RX3 15 "ClosePacking$Images" "lengths" "[I") := ⟨tk_1 _ (List.mem_of_getElem? (i := 128) (by decide +kernel)), Or.inl rfl⟩
theorem wd_64 : kG (Cond.instanceMethod yX6_init) := ⟨tk_1 _ (List.mem_of_getElem? (i := 141) (by decide +kernel)), Or.inl rfl⟩
theorem wd_65 : kG (Cond.code yX6_init cX6_init 1 none) := ⟨tk_1 _ (List.mem_of_getElem? (i := 142) (by decide +kernel)), Or.inl rfl⟩
theorem wd_66 : kG (Cond.methodLink RX6 3 objectInit) := ⟨tk_1 _ (List.mem_of_getElem? (i := 143) (by decide +kernel)), Or.inl rfl⟩
theorem wd_67 : kG (Cond.fieldLink RX6 9 "ClosePacking$Lines" "counts" "[I") := ⟨tk_1 _ (List.mem_of_getElem? (i := 144) (by decide +kernel)), Or.inl rfl⟩
theorem wd_68 : kG (Cond.fieldLink RX6 15 "ClosePacking$Lines" "spare" "[I") := ⟨tk_1 _ (List.mem_of_getElem? (i := 145) (by decide +kernel)), Or.inl rfl⟩
theorem wd_69 : kG (Cond.instanceMethod yX5_init) := ⟨tk_1 _ (List.mem_of_getElem? (i := 154) (by decide +kernel)), Or.inl rfl⟩
theorem wd_70 : kG (Cond.code yX5_init cX5_init 1 none) := ⟨tk_1 _ (List.mem_of_getElem? (i := 155) (by decide +kernel)), Or.inl rfl⟩
theorem wd_71 : kG (Cond.methodLink RX5 3 objectInit) := ⟨tk_1 _ (List.mem_of_getElem? (i := 156) (by decide +kernel)), Or.inl rfl⟩
theorem wd_72 : kG (Cond.fieldLink RX5 11 "ClosePacking$Landscape" "energies" "[I") := ⟨tk_1 _ (List.mem_of_getElem? (i := 157) (by decide +kernel)), Or.inl rfl⟩
theorem gp_wsX11_init_r3 : GoodIn lw_tbl wsX11_init_r3 := k_gc wd_49 (k_gc wd_50 (k_gc wd_51 (k_gc wd_52 (k_gc wd_53 (k_gc wd_54 (k_gc wd_55 (k_gc wd_56 (k_gc wd_57 (k_gc wd_58 (k_gc wd_59 (k_gc wd_60 (k_gc wd_61 (k_gc wd_62 (k_gc wd_63 (k_gc wd_64 (k_gc wd_65 (k_gc wd_66 (k_gc wd_67 (k_gc wd_68 (k_gc wd_69 (k_gc wd_70 (k_gc wd_71 (k_gc wd_72 k_gn)))))))))))))))))))))))
theorem wd_73 : kG (Cond.fieldLink RX5 15 "ClosePacking$Landscape" "queue" "[I") := ⟨tk_1 _ (List.mem_of_getElem? (i := 158) (by decide +kernel)), Or.inl rfl⟩
theorem wd_74 : kG (Cond.arrayClass .boolean) := ⟨tk_1 _ (List.mem_of_getElem? (i := 187) (by decide +kernel)), Or.inr ⟨_, rfl⟩⟩
theorem wd_75 : kG (Cond.fieldLink RX5 18 "ClosePacking$Landscape" "reached" "[Z") := ⟨tk_1 _ (List.mem_of_getElem? (i := 159) (by decide +kernel)), Or.inl rfl⟩
theorem wd_76 : kG (Cond.instanceMethod yX4_init) := ⟨tk_1 _ (List.mem_of_getElem? (i := 191) (by decide +kernel)), Or.inl rfl⟩
theorem wd_77 : kG (Cond.code yX4_init cX4_init 1 none) := ⟨tk_1 _ (List.mem_of_getElem? (i := 192) (by decide +kernel)), Or.inl rfl⟩
theorem wd_78 : kG (Cond.methodLink RX4 3 objectInit) := ⟨tk_1 _ (List.mem_of_getElem? (i := 193) (by decide +kernel)), Or.inl rfl⟩
theorem wd_79 : kG (Cond.classLink RX4 9 RX9) := ⟨tk_1 _ (List.mem_of_getElem? (i := 194) (by decide +kernel)), Or.inl rfl⟩
theorem wd_80 : kG (Cond.fieldLink RX4 12 "ClosePacking$Lab" "stacks" "LClosePacking$Stacks;") := ⟨tk_1 _ (List.mem_of_getElem? (i := 210) (by decide +kernel)), Or.inl rfl⟩
theorem wd_81 : kG (Cond.arrayClass .long) := ⟨tk_2 _ (List.mem_of_getElem? (i := 22) (by decide +kernel)), Or.inr ⟨_, rfl⟩⟩
theorem wd_82 : kG (Cond.fieldLink RX4 18 "ClosePacking$Lab" "names" "[J") := ⟨tk_1 _ (List.mem_of_getElem? (i := 214) (by decide +kernel)), Or.inl rfl⟩
theorem wd_83 : kG (Cond.fieldLink RX4 22 "ClosePacking$Lab" "unsureStacks" "[I") := ⟨tk_1 _ (List.mem_of_getElem? (i := 219) (by decide +kernel)), Or.inl rfl⟩
theorem wd_84 : kG (Cond.fieldLink RX4 26 "ClosePacking$Lab" "unsurePlaces" "[I") := ⟨tk_1 _ (List.mem_of_getElem? (i := 221) (by decide +kernel)), Or.inl rfl⟩
theorem wd_85 : kG (Cond.fieldLink RX4 29 "ClosePacking$Lab" "agreedStacks" "[I") := ⟨tk_1 _ (List.mem_of_getElem? (i := 227) (by decide +kernel)), Or.inl rfl⟩
theorem wd_86 : kG (Cond.fieldLink RX4 32 "ClosePacking$Lab" "agreedDistances" "[I") := ⟨tk_1 _ (List.mem_of_getElem? (i := 229) (by decide +kernel)), Or.inl rfl⟩
theorem wd_87 : kG (Cond.fieldLink RX4 35 "ClosePacking$Lab" "agreedLayers" "[I") := ⟨tk_1 _ (List.mem_of_getElem? (i := 231) (by decide +kernel)), Or.inl rfl⟩
theorem gp_wsX11_init_r4 : GoodIn lw_tbl wsX11_init_r4 := k_gc wd_73 (k_gc wd_74 (k_gc wd_75 (k_gc wd_76 (k_gc wd_77 (k_gc wd_78 (k_gc wd_79 (k_gc wd_80 (k_gc wd_81 (k_gc wd_82 (k_gc wd_83 (k_gc wd_84 (k_gc wd_85 (k_gc wd_86 (k_gc wd_87 k_gn))))))))))))))
theorem gp_wsX11_init : GoodIn lw_tbl wsX11_init := k_gc wd_0 (goodIn_app (goodIn_app (goodIn_app (goodIn_app (goodIn_app (goodIn_app (goodIn_app (goodIn_app (goodIn_app (goodIn_app (gp_wsX11_init_r1) (goodIn_app (gp_wsX11_init_r2) (goodIn_app (gp_wsX11_init_r3) (gp_wsX11_init_r4)))) (k_G_wsX100)) (k_G_wsX110)) (k_G_wsX70)) (k_G_wsX90)) (k_G_wsX00)) (k_G_wsX30)) (k_G_wsX60)) (k_G_wsX50)) (k_G_wsX40))
theorem wd_88 : kG (Cond.code yL_told cL_told 9 (some .boolean)) := ⟨tk_4 _ (List.mem_of_getElem? (i := 87) (by decide +kernel)), Or.inl rfl⟩
theorem wd_89 : kG (Cond.constantLong RL 29 (7809631120267764082)) := ⟨tk_4 _ (List.mem_of_getElem? (i := 88) (by decide +kernel)), Or.inl rfl⟩
theorem wd_90 : kG (Cond.constantLong RL 35 (32)) := ⟨tk_4 _ (List.mem_of_getElem? (i := 111) (by decide +kernel)), Or.inl rfl⟩
theorem wd_91 : kG (Cond.constantLong RL 40 (2338324109281092640)) := ⟨tk_4 _ (List.mem_of_getElem? (i := 118) (by decide +kernel)), Or.inl rfl⟩
theorem wd_92 : kG (Cond.constantLong RL 42 (9135191049266208)) := ⟨tk_4 _ (List.mem_of_getElem? (i := 119) (by decide +kernel)), Or.inl rfl⟩
theorem wd_93 : kG (Cond.constantLong RL 44 (2334960754885945376)) := ⟨tk_4 _ (List.mem_of_getElem? (i := 120) (by decide +kernel)), Or.inl rfl⟩
theorem wd_94 : kG (Cond.constantLong RL 49 (4283895632188088435)) := ⟨tk_4 _ (List.mem_of_getElem? (i := 121) (by decide +kernel)), Or.inl rfl⟩
theorem wd_95 : kG (Cond.methodLink RL 25 yL_cell) := ⟨tk_4 _ (List.mem_of_getElem? (i := 82) (by decide +kernel)), Or.inl rfl⟩
theorem wd_96 : kG (Cond.static yL_cell) := ⟨tk_4 _ (List.mem_of_getElem? (i := 83) (by decide +kernel)), Or.inl rfl⟩
theorem wd_97 : kG (Cond.initialized RL) := ⟨tk_1 _ (List.mem_of_getElem? (i := 0) (by decide +kernel)), Or.inl rfl⟩
theorem wd_98 : kG (Cond.code yL_cell cL_cell 2 (some .int)) := ⟨tk_4 _ (List.mem_of_getElem? (i := 84) (by decide +kernel)), Or.inl rfl⟩
theorem wd_99 : kG (Cond.methodLink RL 31 yL_say) := ⟨tk_4 _ (List.mem_of_getElem? (i := 89) (by decide +kernel)), Or.inl rfl⟩
theorem wd_100 : kG (Cond.static yL_say) := ⟨tk_4 _ (List.mem_of_getElem? (i := 90) (by decide +kernel)), Or.inl rfl⟩
theorem wd_101 : kG (Cond.code yL_say cL_say 5 none) := ⟨tk_4 _ (List.mem_of_getElem? (i := 91) (by decide +kernel)), Or.inl rfl⟩
theorem wd_102 : kG (Cond.constantLong RL 19 (255)) := ⟨tk_4 _ (List.mem_of_getElem? (i := 92) (by decide +kernel)), Or.inl rfl⟩
theorem wd_103 : kG (Cond.methodLink RL 21 yL_put) := ⟨tk_4 _ (List.mem_of_getElem? (i := 93) (by decide +kernel)), Or.inl rfl⟩
theorem wd_104 : kG (Cond.static yL_put) := ⟨tk_4 _ (List.mem_of_getElem? (i := 94) (by decide +kernel)), Or.inl rfl⟩
theorem wd_105 : kG (Cond.code yL_put cL_put 4 none) := ⟨tk_4 _ (List.mem_of_getElem? (i := 95) (by decide +kernel)), Or.inl rfl⟩
theorem wd_106 : kG (Cond.methodLink RL 7 yL_flush) := ⟨tk_4 _ (List.mem_of_getElem? (i := 96) (by decide +kernel)), Or.inl rfl⟩
theorem wd_107 : kG (Cond.static yL_flush) := ⟨tk_4 _ (List.mem_of_getElem? (i := 97) (by decide +kernel)), Or.inl rfl⟩
theorem wd_108 : kG (Cond.code yL_flush cL_flush 3 none) := ⟨tk_4 _ (List.mem_of_getElem? (i := 98) (by decide +kernel)), Or.inl rfl⟩
theorem wd_109 : kG (Cond.methodLink RL 13 yX11_feed) := ⟨tk_4 _ (List.mem_of_getElem? (i := 99) (by decide +kernel)), Or.inl rfl⟩
theorem wd_110 : kG (Cond.instanceMethod yX11_feed) := ⟨tk_4 _ (List.mem_of_getElem? (i := 100) (by decide +kernel)), Or.inl rfl⟩
theorem wd_111 : kG (Cond.selects RX11 yX11_feed yX11_feed) := ⟨tk_4 _ (List.mem_of_getElem? (i := 101) (by decide +kernel)), Or.inl rfl⟩
theorem wd_112 : kG (Cond.initialized RX11) := ⟨tk_1 _ (List.mem_of_getElem? (i := 1) (by decide +kernel)), Or.inl rfl⟩
theorem gp_wsL_told_r1 : GoodIn lw_tbl wsL_told_r1 := k_gc wd_89 (k_gc wd_90 (k_gc wd_91 (k_gc wd_92 (k_gc wd_93 (k_gc wd_94 (k_gc wd_95 (k_gc wd_96 (k_gc wd_97 (k_gc wd_98 (k_gc wd_99 (k_gc wd_100 (k_gc wd_101 (k_gc wd_102 (k_gc wd_103 (k_gc wd_104 (k_gc wd_105 (k_gc wd_106 (k_gc wd_107 (k_gc wd_108 (k_gc wd_109 (k_gc wd_110 (k_gc wd_111 (k_gc wd_112 k_gn)))))))))))))))))))))))
theorem wd_113 : kG (Cond.code yX11_feed cX11_feed 6 (some .int)) := ⟨tk_4 _ (List.mem_of_getElem? (i := 102) (by decide +kernel)), Or.inl rfl⟩
theorem wd_114 : kG (Cond.methodLink RX11 70 yX10_hasRoom) := ⟨tk_4 _ (List.mem_of_getElem? (i := 103) (by decide +kernel)), Or.inl rfl⟩
theorem wd_115 : kG (Cond.instanceMethod yX10_hasRoom) := ⟨tk_4 _ (List.mem_of_getElem? (i := 104) (by decide +kernel)), Or.inl rfl⟩
theorem wd_116 : kG (Cond.selects RX10 yX10_hasRoom yX10_hasRoom) := ⟨tk_4 _ (List.mem_of_getElem? (i := 105) (by decide +kernel)), Or.inl rfl⟩
theorem wd_117 : kG (Cond.code yX10_hasRoom cX10_hasRoom 2 (some .boolean)) := ⟨tk_4 _ (List.mem_of_getElem? (i := 106) (by decide +kernel)), Or.inl rfl⟩
theorem wd_118 : kG (Cond.fieldLink RX10 13 "ClosePacking$Tape" "length" "I") := ⟨tk_1 _ (List.mem_of_getElem? (i := 34) (by decide +kernel)), Or.inl rfl⟩
theorem wd_119 : kG (Cond.methodLink RX11 74 yX10_addNumber) := ⟨tk_4 _ (List.mem_of_getElem? (i := 107) (by decide +kernel)), Or.inl rfl⟩
theorem wd_120 : kG (Cond.instanceMethod yX10_addNumber) := ⟨tk_4 _ (List.mem_of_getElem? (i := 108) (by decide +kernel)), Or.inl rfl⟩
theorem wd_121 : kG (Cond.selects RX10 yX10_addNumber yX10_addNumber) := ⟨tk_4 _ (List.mem_of_getElem? (i := 109) (by decide +kernel)), Or.inl rfl⟩
theorem wd_122 : kG (Cond.code yX10_addNumber cX10_addNumber 3 none) := ⟨tk_4 _ (List.mem_of_getElem? (i := 110) (by decide +kernel)), Or.inl rfl⟩
theorem wd_123 : kG (Cond.methodLink RL 37 yL_below) := ⟨tk_4 _ (List.mem_of_getElem? (i := 112) (by decide +kernel)), Or.inl rfl⟩
theorem wd_124 : kG (Cond.static yL_below) := ⟨tk_4 _ (List.mem_of_getElem? (i := 113) (by decide +kernel)), Or.inl rfl⟩
theorem wd_125 : kG (Cond.code yL_below cL_below 3 none) := ⟨tk_4 _ (List.mem_of_getElem? (i := 114) (by decide +kernel)), Or.inl rfl⟩
theorem wd_126 : kG (Cond.methodLink RL 46 yL_number) := ⟨tk_4 _ (List.mem_of_getElem? (i := 115) (by decide +kernel)), Or.inl rfl⟩
theorem wd_127 : kG (Cond.static yL_number) := ⟨tk_4 _ (List.mem_of_getElem? (i := 116) (by decide +kernel)), Or.inl rfl⟩
theorem wd_128 : kG (Cond.code yL_number cL_number 5 none) := ⟨tk_4 _ (List.mem_of_getElem? (i := 117) (by decide +kernel)), Or.inl rfl⟩
theorem wd_129 : kG (Cond.methodLink RL 51 yL_rest) := ⟨tk_4 _ (List.mem_of_getElem? (i := 122) (by decide +kernel)), Or.inl rfl⟩
theorem wd_130 : kG (Cond.static yL_rest) := ⟨tk_4 _ (List.mem_of_getElem? (i := 123) (by decide +kernel)), Or.inl rfl⟩
theorem wd_131 : kG (Cond.code yL_rest cL_rest 4 (some .boolean)) := ⟨tk_4 _ (List.mem_of_getElem? (i := 124) (by decide +kernel)), Or.inl rfl⟩
theorem wd_132 : kG (Cond.constantLong RL 55 (4284452062683620640)) := ⟨tk_4 _ (List.mem_of_getElem? (i := 125) (by decide +kernel)), Or.inl rfl⟩
theorem wd_133 : kG (Cond.constantLong RL 57 (115)) := ⟨tk_4 _ (List.mem_of_getElem? (i := 126) (by decide +kernel)), Or.inl rfl⟩
theorem gp_wsL_told_r2 : GoodIn lw_tbl wsL_told_r2 := k_gc wd_113 (k_gc wd_7 (k_gc wd_114 (k_gc wd_115 (k_gc wd_116 (k_gc wd_6 (k_gc wd_117 (k_gc wd_118 (k_gc wd_119 (k_gc wd_120 (k_gc wd_121 (k_gc wd_122 (k_gc wd_41 (k_gc wd_123 (k_gc wd_124 (k_gc wd_125 (k_gc wd_126 (k_gc wd_127 (k_gc wd_128 (k_gc wd_129 (k_gc wd_130 (k_gc wd_131 (k_gc wd_132 (k_gc wd_133 k_gn)))))))))))))))))))))))
theorem wd_134 : kG (Cond.constantLong RL 59 (4278814862003758112)) := ⟨tk_4 _ (List.mem_of_getElem? (i := 127) (by decide +kernel)), Or.inl rfl⟩
theorem wd_135 : kG (Cond.methodLink RL 61 yL_said) := ⟨tk_4 _ (List.mem_of_getElem? (i := 128) (by decide +kernel)), Or.inl rfl⟩
theorem wd_136 : kG (Cond.static yL_said) := ⟨tk_4 _ (List.mem_of_getElem? (i := 129) (by decide +kernel)), Or.inl rfl⟩
theorem wd_137 : kG (Cond.code yL_said cL_said 3 (some .int)) := ⟨tk_4 _ (List.mem_of_getElem? (i := 130) (by decide +kernel)), Or.inl rfl⟩
theorem wd_138 : kG (Cond.methodLink RL 65 yX11_lab) := ⟨tk_4 _ (List.mem_of_getElem? (i := 131) (by decide +kernel)), Or.inl rfl⟩
theorem wd_139 : kG (Cond.instanceMethod yX11_lab) := ⟨tk_4 _ (List.mem_of_getElem? (i := 132) (by decide +kernel)), Or.inl rfl⟩
theorem wd_140 : kG (Cond.selects RX11 yX11_lab yX11_lab) := ⟨tk_4 _ (List.mem_of_getElem? (i := 133) (by decide +kernel)), Or.inl rfl⟩
theorem wd_141 : kG (Cond.code yX11_lab cX11_lab 4 (some .int)) := ⟨tk_4 _ (List.mem_of_getElem? (i := 134) (by decide +kernel)), Or.inl rfl⟩
theorem wd_142 : kG (Cond.fieldLink RX11 93 "ClosePacking" "latestFault" "I") := ⟨tk_2 _ (List.mem_of_getElem? (i := 33) (by decide +kernel)), Or.inl rfl⟩
theorem wd_143 : kG (Cond.fieldLink RX11 99 "ClosePacking" "faultPlace" "I") := ⟨tk_2 _ (List.mem_of_getElem? (i := 34) (by decide +kernel)), Or.inl rfl⟩
theorem wd_144 : kG (Cond.methodLink RX11 82 yX11_refused) := ⟨tk_2 _ (List.mem_of_getElem? (i := 68) (by decide +kernel)), Or.inl rfl⟩
theorem wd_145 : kG (Cond.instanceMethod yX11_refused) := ⟨tk_2 _ (List.mem_of_getElem? (i := 70) (by decide +kernel)), Or.inl rfl⟩
theorem wd_146 : kG (Cond.selects RX11 yX11_refused yX11_refused) := ⟨List.mem_of_getElem? (i := 1) (by decide +kernel), Or.inl rfl⟩
theorem wd_147 : kG (Cond.code yX11_refused cX11_refused 3 (some .int)) := ⟨tk_2 _ (List.mem_of_getElem? (i := 71) (by decide +kernel)), Or.inl rfl⟩
theorem wd_148 : kG (Cond.fieldLink RX11 118 "ClosePacking" "latestTrouble" "I") := ⟨tk_2 _ (List.mem_of_getElem? (i := 32) (by decide +kernel)), Or.inl rfl⟩
theorem wd_149 : kG (Cond.methodLink RX11 86 yX7_reads) := ⟨tk_4 _ (List.mem_of_getElem? (i := 135) (by decide +kernel)), Or.inl rfl⟩
theorem wd_150 : kG (Cond.instanceMethod yX7_reads) := ⟨tk_4 _ (List.mem_of_getElem? (i := 136) (by decide +kernel)), Or.inl rfl⟩
theorem wd_151 : kG (Cond.selects RX7 yX7_reads yX7_reads) := ⟨tk_4 _ (List.mem_of_getElem? (i := 137) (by decide +kernel)), Or.inl rfl⟩
theorem gp_wsL_told_r3 : GoodIn lw_tbl wsL_told_r3 := k_gc wd_134 (k_gc wd_135 (k_gc wd_136 (k_gc wd_137 (k_gc wd_138 (k_gc wd_139 (k_gc wd_140 (k_gc wd_141 (k_gc wd_11 (k_gc wd_36 (k_gc wd_142 (k_gc wd_143 (k_gc wd_35 (k_gc wd_15 (k_gc wd_19 (k_gc wd_23 (k_gc wd_144 (k_gc wd_145 (k_gc wd_146 (k_gc wd_147 (k_gc wd_148 (k_gc wd_149 (k_gc wd_150 (k_gc wd_151 k_gn)))))))))))))))))))))))
theorem wd_152 : kG (Cond.code yX7_reads cX7_reads 4 (some .boolean)) := ⟨tk_4 _ (List.mem_of_getElem? (i := 138) (by decide +kernel)), Or.inl rfl⟩
theorem wd_153 : kG (Cond.fieldLink RX7 20 "ClosePacking$Reader" "fault" "I") := ⟨tk_1 _ (List.mem_of_getElem? (i := 58) (by decide +kernel)), Or.inl rfl⟩
theorem wd_154 : kG (Cond.fieldLink RX7 24 "ClosePacking$Reader" "end" "I") := ⟨tk_1 _ (List.mem_of_getElem? (i := 49) (by decide +kernel)), Or.inl rfl⟩
theorem wd_155 : kG (Cond.fieldLink RX7 27 "ClosePacking$Reader" "next" "I") := ⟨tk_1 _ (List.mem_of_getElem? (i := 50) (by decide +kernel)), Or.inl rfl⟩
theorem wd_156 : kG (Cond.fieldLink RX7 42 "ClosePacking$Reader" "kind" "I") := ⟨tk_1 _ (List.mem_of_getElem? (i := 51) (by decide +kernel)), Or.inl rfl⟩
theorem wd_157 : kG (Cond.fieldLink RX7 58 "ClosePacking$Reader" "value" "I") := ⟨tk_1 _ (List.mem_of_getElem? (i := 55) (by decide +kernel)), Or.inl rfl⟩
theorem wd_158 : kG (Cond.methodLink RX7 15 yX4_clear) := ⟨tk_4 _ (List.mem_of_getElem? (i := 139) (by decide +kernel)), Or.inl rfl⟩
theorem wd_159 : kG (Cond.instanceMethod yX4_clear) := ⟨tk_4 _ (List.mem_of_getElem? (i := 140) (by decide +kernel)), Or.inl rfl⟩
theorem wd_160 : kG (Cond.selects RX4 yX4_clear yX4_clear) := ⟨tk_4 _ (List.mem_of_getElem? (i := 141) (by decide +kernel)), Or.inl rfl⟩
theorem wd_161 : kG (Cond.code yX4_clear cX4_clear 1 none) := ⟨tk_4 _ (List.mem_of_getElem? (i := 142) (by decide +kernel)), Or.inl rfl⟩
theorem wd_162 : kG (Cond.fieldLink RX4 38 "ClosePacking$Lab" "complete" "Z") := ⟨tk_1 _ (List.mem_of_getElem? (i := 196) (by decide +kernel)), Or.inl rfl⟩
theorem wd_163 : kG (Cond.fieldLink RX4 46 "ClosePacking$Lab" "unsureCount" "I") := ⟨tk_1 _ (List.mem_of_getElem? (i := 216) (by decide +kernel)), Or.inl rfl⟩
theorem wd_164 : kG (Cond.fieldLink RX4 49 "ClosePacking$Lab" "agreedCount" "I") := ⟨tk_1 _ (List.mem_of_getElem? (i := 223) (by decide +kernel)), Or.inl rfl⟩
theorem wd_165 : kG (Cond.methodLink RX7 30 yX7_advance) := ⟨tk_4 _ (List.mem_of_getElem? (i := 143) (by decide +kernel)), Or.inl rfl⟩
theorem wd_166 : kG (Cond.instanceMethod yX7_advance) := ⟨tk_4 _ (List.mem_of_getElem? (i := 145) (by decide +kernel)), Or.inl rfl⟩
theorem wd_167 : kG (Cond.selects RX7 yX7_advance yX7_advance) := ⟨List.mem_of_getElem? (i := 10) (by decide +kernel), Or.inl rfl⟩
theorem wd_168 : kG (Cond.code yX7_advance cX7_advance 1 none) := ⟨tk_4 _ (List.mem_of_getElem? (i := 146) (by decide +kernel)), Or.inl rfl⟩
theorem wd_169 : kG (Cond.fieldLink RX7 173 "ClosePacking$Reader" "place" "I") := ⟨tk_1 _ (List.mem_of_getElem? (i := 53) (by decide +kernel)), Or.inl rfl⟩
theorem wd_170 : kG (Cond.fieldLink RX7 128 "ClosePacking$Reader" "word" "J") := ⟨tk_1 _ (List.mem_of_getElem? (i := 56) (by decide +kernel)), Or.inl rfl⟩
theorem wd_171 : kG (Cond.fieldLink RX7 140 "ClosePacking$Reader" "length" "I") := ⟨tk_1 _ (List.mem_of_getElem? (i := 54) (by decide +kernel)), Or.inl rfl⟩
theorem gp_wsL_told_r4 : GoodIn lw_tbl wsL_told_r4 := k_gc wd_10 (k_gc wd_152 (k_gc wd_153 (k_gc wd_154 (k_gc wd_155 (k_gc wd_156 (k_gc wd_157 (k_gc wd_158 (k_gc wd_159 (k_gc wd_160 (k_gc wd_34 (k_gc wd_161 (k_gc wd_162 (k_gc wd_80 (k_gc wd_163 (k_gc wd_164 (k_gc wd_165 (k_gc wd_166 (k_gc wd_167 (k_gc wd_168 (k_gc wd_46 (k_gc wd_169 (k_gc wd_170 (k_gc wd_171 k_gn)))))))))))))))))))))))
theorem wd_172 : kG (Cond.methodLink RX7 176 yX10_byteAt) := ⟨tk_4 _ (List.mem_of_getElem? (i := 147) (by decide +kernel)), Or.inl rfl⟩
theorem wd_173 : kG (Cond.instanceMethod yX10_byteAt) := ⟨tk_4 _ (List.mem_of_getElem? (i := 148) (by decide +kernel)), Or.inl rfl⟩
theorem wd_174 : kG (Cond.selects RX10 yX10_byteAt yX10_byteAt) := ⟨tk_4 _ (List.mem_of_getElem? (i := 149) (by decide +kernel)), Or.inl rfl⟩
theorem wd_175 : kG (Cond.code yX10_byteAt cX10_byteAt 2 (some .int)) := ⟨tk_4 _ (List.mem_of_getElem? (i := 150) (by decide +kernel)), Or.inl rfl⟩
theorem wd_176 : kG (Cond.methodLink RX7 179 yX7_isLetter) := ⟨tk_4 _ (List.mem_of_getElem? (i := 151) (by decide +kernel)), Or.inl rfl⟩
theorem wd_177 : kG (Cond.static yX7_isLetter) := ⟨tk_4 _ (List.mem_of_getElem? (i := 152) (by decide +kernel)), Or.inl rfl⟩
theorem wd_178 : kG (Cond.code yX7_isLetter cX7_isLetter 1 (some .boolean)) := ⟨tk_4 _ (List.mem_of_getElem? (i := 153) (by decide +kernel)), Or.inl rfl⟩
theorem wd_179 : kG (Cond.methodLink RX7 182 yX7_advanceWord) := ⟨tk_4 _ (List.mem_of_getElem? (i := 154) (by decide +kernel)), Or.inl rfl⟩
theorem wd_180 : kG (Cond.instanceMethod yX7_advanceWord) := ⟨tk_4 _ (List.mem_of_getElem? (i := 156) (by decide +kernel)), Or.inl rfl⟩
theorem wd_181 : kG (Cond.selects RX7 yX7_advanceWord yX7_advanceWord) := ⟨List.mem_of_getElem? (i := 11) (by decide +kernel), Or.inl rfl⟩
theorem wd_182 : kG (Cond.code yX7_advanceWord cX7_advanceWord 2 none) := ⟨tk_4 _ (List.mem_of_getElem? (i := 157) (by decide +kernel)), Or.inl rfl⟩
theorem wd_183 : kG (Cond.constantLong RX7 191 (32)) := ⟨tk_4 _ (List.mem_of_getElem? (i := 158) (by decide +kernel)), Or.inl rfl⟩
theorem wd_184 : kG (Cond.methodLink RX7 185 yX7_isDigit) := ⟨tk_4 _ (List.mem_of_getElem? (i := 159) (by decide +kernel)), Or.inl rfl⟩
theorem wd_185 : kG (Cond.static yX7_isDigit) := ⟨tk_4 _ (List.mem_of_getElem? (i := 160) (by decide +kernel)), Or.inl rfl⟩
theorem wd_186 : kG (Cond.code yX7_isDigit cX7_isDigit 1 (some .boolean)) := ⟨tk_4 _ (List.mem_of_getElem? (i := 161) (by decide +kernel)), Or.inl rfl⟩
theorem wd_187 : kG (Cond.methodLink RX7 188 yX7_advanceWhole) := ⟨tk_4 _ (List.mem_of_getElem? (i := 162) (by decide +kernel)), Or.inl rfl⟩
theorem wd_188 : kG (Cond.instanceMethod yX7_advanceWhole) := ⟨tk_4 _ (List.mem_of_getElem? (i := 164) (by decide +kernel)), Or.inl rfl⟩
theorem wd_189 : kG (Cond.selects RX7 yX7_advanceWhole yX7_advanceWhole) := ⟨List.mem_of_getElem? (i := 12) (by decide +kernel), Or.inl rfl⟩
theorem wd_190 : kG (Cond.code yX7_advanceWhole cX7_advanceWhole 2 none) := ⟨tk_4 _ (List.mem_of_getElem? (i := 165) (by decide +kernel)), Or.inl rfl⟩
theorem wd_191 : kG (Cond.methodLink RX7 35 yX7_mayBegin) := ⟨tk_4 _ (List.mem_of_getElem? (i := 166) (by decide +kernel)), Or.inl rfl⟩
theorem wd_192 : kG (Cond.instanceMethod yX7_mayBegin) := ⟨tk_4 _ (List.mem_of_getElem? (i := 168) (by decide +kernel)), Or.inl rfl⟩
theorem wd_193 : kG (Cond.selects RX7 yX7_mayBegin yX7_mayBegin) := ⟨List.mem_of_getElem? (i := 13) (by decide +kernel), Or.inl rfl⟩
theorem wd_194 : kG (Cond.code yX7_mayBegin cX7_mayBegin 6 (some .boolean)) := ⟨tk_4 _ (List.mem_of_getElem? (i := 169) (by decide +kernel)), Or.inl rfl⟩
theorem wd_195 : kG (Cond.methodLink RX7 63 yX7_isWord) := ⟨tk_4 _ (List.mem_of_getElem? (i := 171) (by decide +kernel)), Or.inl rfl⟩
theorem gp_wsL_told_r5 : GoodIn lw_tbl wsL_told_r5 := k_gc wd_172 (k_gc wd_173 (k_gc wd_174 (k_gc wd_175 (k_gc wd_176 (k_gc wd_177 (k_gc wd_178 (k_gc wd_179 (k_gc wd_180 (k_gc wd_181 (k_gc wd_182 (k_gc wd_183 (k_gc wd_184 (k_gc wd_185 (k_gc wd_186 (k_gc wd_187 (k_gc wd_188 (k_gc wd_189 (k_gc wd_190 (k_gc wd_191 (k_gc wd_192 (k_gc wd_193 (k_gc wd_194 (k_gc wd_195 k_gn)))))))))))))))))))))))
theorem wd_196 : kG (Cond.instanceMethod yX7_isWord) := ⟨tk_4 _ (List.mem_of_getElem? (i := 173) (by decide +kernel)), Or.inl rfl⟩
theorem wd_197 : kG (Cond.selects RX7 yX7_isWord yX7_isWord) := ⟨List.mem_of_getElem? (i := 14) (by decide +kernel), Or.inl rfl⟩
theorem wd_198 : kG (Cond.code yX7_isWord cX7_isWord 2 (some .boolean)) := ⟨tk_4 _ (List.mem_of_getElem? (i := 174) (by decide +kernel)), Or.inl rfl⟩
theorem wd_199 : kG (Cond.methodLink RX7 169 yX7_codeOf) := ⟨tk_4 _ (List.mem_of_getElem? (i := 175) (by decide +kernel)), Or.inl rfl⟩
theorem wd_200 : kG (Cond.static yX7_codeOf) := ⟨tk_4 _ (List.mem_of_getElem? (i := 176) (by decide +kernel)), Or.inl rfl⟩
theorem wd_201 : kG (Cond.code yX7_codeOf cX7_codeOf 4 (some .long)) := ⟨tk_4 _ (List.mem_of_getElem? (i := 177) (by decide +kernel)), Or.inl rfl⟩
theorem wd_202 : kG (Cond.methodLink RX7 193 yJ0_length_8abf5) := ⟨tk_4 _ (List.mem_of_getElem? (i := 178) (by decide +kernel)), Or.inl rfl⟩
theorem wd_203 : kG (Cond.instanceMethod yJ0_length_8abf5) := ⟨tk_4 _ (List.mem_of_getElem? (i := 179) (by decide +kernel)), Or.inl rfl⟩
theorem wd_204 : kG (Cond.selects RJ0 yJ0_length_8abf5 yJ0_length_8abf5) := ⟨tk_4 _ (List.mem_of_getElem? (i := 180) (by decide +kernel)), Or.inl rfl⟩
theorem wd_205 : kG (Cond.initialized RJ0) := ⟨tk_1 _ (List.mem_of_getElem? (i := 10) (by decide +kernel)), Or.inl rfl⟩
theorem wd_206 : kG (Cond.code yJ0_length_8abf5 cJ0_length_8abf5 1 (some .int)) := ⟨tk_4 _ (List.mem_of_getElem? (i := 181) (by decide +kernel)), Or.inl rfl⟩
theorem wd_207 : kG (Cond.fieldLink RJ0 9 "java/lang/String" "value" "[B") := ⟨tk_5 _ (List.mem_of_getElem? (i := 132) (by decide +kernel)), Or.inl rfl⟩
theorem wd_208 : kG (Cond.methodLink RJ0 335 yJ0_coder_7d493) := ⟨tk_4 _ (List.mem_of_getElem? (i := 182) (by decide +kernel)), Or.inl rfl⟩
theorem wd_209 : kG (Cond.instanceMethod yJ0_coder_7d493) := ⟨tk_4 _ (List.mem_of_getElem? (i := 183) (by decide +kernel)), Or.inl rfl⟩
theorem wd_210 : kG (Cond.selects RJ0 yJ0_coder_7d493 yJ0_coder_7d493) := ⟨tk_4 _ (List.mem_of_getElem? (i := 184) (by decide +kernel)), Or.inl rfl⟩
theorem wd_211 : kG (Cond.code yJ0_coder_7d493 cJ0_coder_7d493 1 (some .byte)) := ⟨tk_4 _ (List.mem_of_getElem? (i := 185) (by decide +kernel)), Or.inl rfl⟩
theorem wd_212 : kG (Cond.fieldLink RJ0 38 "java/lang/String" "COMPACT_STRINGS" "Z") := ⟨tk_4 _ (List.mem_of_getElem? (i := 186) (by decide +kernel)), Or.inl rfl⟩
theorem wd_213 : kG (Cond.fieldLink RJ0 15 "java/lang/String" "coder" "B") := ⟨tk_5 _ (List.mem_of_getElem? (i := 133) (by decide +kernel)), Or.inl rfl⟩
theorem wd_214 : kG (Cond.methodLink RX7 197 yJ0_charAt_5068e) := ⟨tk_4 _ (List.mem_of_getElem? (i := 188) (by decide +kernel)), Or.inl rfl⟩
theorem wd_215 : kG (Cond.instanceMethod yJ0_charAt_5068e) := ⟨tk_4 _ (List.mem_of_getElem? (i := 189) (by decide +kernel)), Or.inl rfl⟩
theorem wd_216 : kG (Cond.selects RJ0 yJ0_charAt_5068e yJ0_charAt_5068e) := ⟨tk_4 _ (List.mem_of_getElem? (i := 190) (by decide +kernel)), Or.inl rfl⟩
theorem wd_217 : kG (Cond.code yJ0_charAt_5068e cJ0_charAt_5068e 2 (some .char)) := ⟨tk_4 _ (List.mem_of_getElem? (i := 191) (by decide +kernel)), Or.inl rfl⟩
theorem wd_218 : kG (Cond.methodLink RJ0 492 yJ0_isLatin1_aae02) := ⟨tk_4 _ (List.mem_of_getElem? (i := 192) (by decide +kernel)), Or.inl rfl⟩
theorem wd_219 : kG (Cond.instanceMethod yJ0_isLatin1_aae02) := ⟨tk_4 _ (List.mem_of_getElem? (i := 193) (by decide +kernel)), Or.inl rfl⟩
theorem gp_wsL_told_r6 : GoodIn lw_tbl wsL_told_r6 := k_gc wd_196 (k_gc wd_197 (k_gc wd_198 (k_gc wd_199 (k_gc wd_200 (k_gc wd_201 (k_gc wd_202 (k_gc wd_203 (k_gc wd_204 (k_gc wd_205 (k_gc wd_206 (k_gc wd_207 (k_gc wd_208 (k_gc wd_209 (k_gc wd_210 (k_gc wd_211 (k_gc wd_212 (k_gc wd_213 (k_gc wd_214 (k_gc wd_215 (k_gc wd_216 (k_gc wd_217 (k_gc wd_218 (k_gc wd_219 k_gn)))))))))))))))))))))))
theorem wd_220 : kG (Cond.selects RJ0 yJ0_isLatin1_aae02 yJ0_isLatin1_aae02) := ⟨tk_4 _ (List.mem_of_getElem? (i := 194) (by decide +kernel)), Or.inl rfl⟩
theorem wd_221 : kG (Cond.code yJ0_isLatin1_aae02 cJ0_isLatin1_aae02 1 (some .boolean)) := ⟨tk_4 _ (List.mem_of_getElem? (i := 195) (by decide +kernel)), Or.inl rfl⟩
theorem wd_222 : kG (Cond.methodLink RJ0 495 yJ1_charAt_3b067) := ⟨tk_4 _ (List.mem_of_getElem? (i := 196) (by decide +kernel)), Or.inl rfl⟩
theorem wd_223 : kG (Cond.static yJ1_charAt_3b067) := ⟨tk_4 _ (List.mem_of_getElem? (i := 197) (by decide +kernel)), Or.inl rfl⟩
theorem wd_224 : kG (Cond.initialized RJ1) := ⟨tk_1 _ (List.mem_of_getElem? (i := 11) (by decide +kernel)), Or.inl rfl⟩
theorem wd_225 : kG (Cond.code yJ1_charAt_3b067 cJ1_charAt_3b067 2 (some .char)) := ⟨tk_4 _ (List.mem_of_getElem? (i := 198) (by decide +kernel)), Or.inl rfl⟩
theorem wd_226 : kG (Cond.methodLink RJ1 9 yJ0_checkIndex_df160) := ⟨tk_4 _ (List.mem_of_getElem? (i := 199) (by decide +kernel)), Or.inl rfl⟩
theorem wd_227 : kG (Cond.static yJ0_checkIndex_df160) := ⟨tk_4 _ (List.mem_of_getElem? (i := 200) (by decide +kernel)), Or.inl rfl⟩
theorem wd_228 : kG (Cond.code yJ0_checkIndex_df160 cJ0_checkIndex_df160 2 none) := ⟨tk_4 _ (List.mem_of_getElem? (i := 201) (by decide +kernel)), Or.inl rfl⟩
theorem wd_229 : kG (Cond.fieldLink RJ0 1053 "jdk/internal/util/Preconditions" "SIOOBE_FORMATTER" "Ljava/util/function/BiFunction;") := ⟨tk_4 _ (List.mem_of_getElem? (i := 202) (by decide +kernel)), Or.inl rfl⟩
theorem wd_230 : kG (Cond.methodLink RJ0 1059 yJ3_checkIndex_8e157) := ⟨tk_4 _ (List.mem_of_getElem? (i := 204) (by decide +kernel)), Or.inl rfl⟩
theorem wd_231 : kG (Cond.static yJ3_checkIndex_8e157) := ⟨tk_4 _ (List.mem_of_getElem? (i := 205) (by decide +kernel)), Or.inl rfl⟩
theorem wd_232 : kG (Cond.initialized RJ3) := ⟨tk_1 _ (List.mem_of_getElem? (i := 12) (by decide +kernel)), Or.inl rfl⟩
theorem wd_233 : kG (Cond.code yJ3_checkIndex_8e157 cJ3_checkIndex_8e157 3 (some .int)) := ⟨tk_4 _ (List.mem_of_getElem? (i := 206) (by decide +kernel)), Or.inl rfl⟩
theorem wd_234 : kG (Cond.methodLink RJ0 498 yJ2_charAt_3b067) := ⟨tk_4 _ (List.mem_of_getElem? (i := 207) (by decide +kernel)), Or.inl rfl⟩
theorem wd_235 : kG (Cond.static yJ2_charAt_3b067) := ⟨tk_4 _ (List.mem_of_getElem? (i := 208) (by decide +kernel)), Or.inl rfl⟩
theorem wd_236 : kG (Cond.initialized RJ2) := ⟨tk_1 _ (List.mem_of_getElem? (i := 13) (by decide +kernel)), Or.inl rfl⟩
theorem wd_237 : kG (Cond.code yJ2_charAt_3b067 cJ2_charAt_3b067 2 (some .char)) := ⟨tk_4 _ (List.mem_of_getElem? (i := 209) (by decide +kernel)), Or.inl rfl⟩
theorem wd_238 : kG (Cond.methodLink RJ2 67 yJ2_checkIndex_2214a) := ⟨tk_4 _ (List.mem_of_getElem? (i := 210) (by decide +kernel)), Or.inl rfl⟩
theorem wd_239 : kG (Cond.static yJ2_checkIndex_2214a) := ⟨tk_4 _ (List.mem_of_getElem? (i := 211) (by decide +kernel)), Or.inl rfl⟩
theorem wd_240 : kG (Cond.code yJ2_checkIndex_2214a cJ2_checkIndex_2214a 2 none) := ⟨tk_4 _ (List.mem_of_getElem? (i := 212) (by decide +kernel)), Or.inl rfl⟩
theorem wd_241 : kG (Cond.methodLink RJ2 48 yJ2_length_9d52b) := ⟨tk_4 _ (List.mem_of_getElem? (i := 213) (by decide +kernel)), Or.inl rfl⟩
theorem wd_242 : kG (Cond.static yJ2_length_9d52b) := ⟨tk_4 _ (List.mem_of_getElem? (i := 214) (by decide +kernel)), Or.inl rfl⟩
theorem wd_243 : kG (Cond.code yJ2_length_9d52b cJ2_length_9d52b 1 (some .int)) := ⟨tk_4 _ (List.mem_of_getElem? (i := 215) (by decide +kernel)), Or.inl rfl⟩
theorem gp_wsL_told_r7 : GoodIn lw_tbl wsL_told_r7 := k_gc wd_220 (k_gc wd_221 (k_gc wd_222 (k_gc wd_223 (k_gc wd_224 (k_gc wd_225 (k_gc wd_226 (k_gc wd_227 (k_gc wd_228 (k_gc wd_229 (k_gc wd_230 (k_gc wd_231 (k_gc wd_232 (k_gc wd_233 (k_gc wd_234 (k_gc wd_235 (k_gc wd_236 (k_gc wd_237 (k_gc wd_238 (k_gc wd_239 (k_gc wd_240 (k_gc wd_241 (k_gc wd_242 (k_gc wd_243 k_gn)))))))))))))))))))))))
theorem wd_244 : kG (Cond.methodLink RJ2 414 yJ0_checkIndex_df160) := ⟨tk_4 _ (List.mem_of_getElem? (i := 216) (by decide +kernel)), Or.inl rfl⟩
theorem wd_245 : kG (Cond.methodLink RJ2 71 yJ2_getChar_3b067) := ⟨tk_4 _ (List.mem_of_getElem? (i := 217) (by decide +kernel)), Or.inl rfl⟩
theorem wd_246 : kG (Cond.static yJ2_getChar_3b067) := ⟨tk_4 _ (List.mem_of_getElem? (i := 218) (by decide +kernel)), Or.inl rfl⟩
theorem wd_247 : kG (Cond.code yJ2_getChar_3b067 cJ2_getChar_3b067 2 (some .char)) := ⟨tk_4 _ (List.mem_of_getElem? (i := 219) (by decide +kernel)), Or.inl rfl⟩
theorem wd_248 : kG (Cond.fieldLink RJ2 44 "java/lang/StringUTF16" "$assertionsDisabled" "Z") := ⟨tk_4 _ (List.mem_of_getElem? (i := 220) (by decide +kernel)), Or.inl rfl⟩
theorem wd_249 : kG (Cond.fieldLink RJ2 59 "java/lang/StringUTF16" "HI_BYTE_SHIFT" "I") := ⟨tk_4 _ (List.mem_of_getElem? (i := 222) (by decide +kernel)), Or.inl rfl⟩
theorem wd_250 : kG (Cond.fieldLink RJ2 63 "java/lang/StringUTF16" "LO_BYTE_SHIFT" "I") := ⟨tk_4 _ (List.mem_of_getElem? (i := 224) (by decide +kernel)), Or.inl rfl⟩
theorem wd_251 : kG (Cond.methodLink RX7 54 yX7_fails) := ⟨tk_4 _ (List.mem_of_getElem? (i := 226) (by decide +kernel)), Or.inl rfl⟩
theorem wd_252 : kG (Cond.instanceMethod yX7_fails) := ⟨tk_4 _ (List.mem_of_getElem? (i := 228) (by decide +kernel)), Or.inl rfl⟩
theorem wd_253 : kG (Cond.selects RX7 yX7_fails yX7_fails) := ⟨List.mem_of_getElem? (i := 15) (by decide +kernel), Or.inl rfl⟩
theorem wd_254 : kG (Cond.code yX7_fails cX7_fails 2 (some .boolean)) := ⟨tk_4 _ (List.mem_of_getElem? (i := 229) (by decide +kernel)), Or.inl rfl⟩
theorem wd_255 : kG (Cond.methodLink RX7 39 yX7_readsLine) := ⟨tk_4 _ (List.mem_of_getElem? (i := 233) (by decide +kernel)), Or.inl rfl⟩
theorem wd_256 : kG (Cond.instanceMethod yX7_readsLine) := ⟨tk_4 _ (List.mem_of_getElem? (i := 235) (by decide +kernel)), Or.inl rfl⟩
theorem wd_257 : kG (Cond.selects RX7 yX7_readsLine yX7_readsLine) := ⟨List.mem_of_getElem? (i := 16) (by decide +kernel), Or.inl rfl⟩
theorem wd_258 : kG (Cond.code yX7_readsLine cX7_readsLine 2 (some .boolean)) := ⟨tk_4 _ (List.mem_of_getElem? (i := 236) (by decide +kernel)), Or.inl rfl⟩
theorem wd_259 : kG (Cond.methodLink RX7 83 yX7_readsHead) := ⟨tk_4 _ (List.mem_of_getElem? (i := 237) (by decide +kernel)), Or.inl rfl⟩
theorem wd_260 : kG (Cond.instanceMethod yX7_readsHead) := ⟨tk_4 _ (List.mem_of_getElem? (i := 239) (by decide +kernel)), Or.inl rfl⟩
theorem wd_261 : kG (Cond.selects RX7 yX7_readsHead yX7_readsHead) := ⟨List.mem_of_getElem? (i := 17) (by decide +kernel), Or.inl rfl⟩
theorem wd_262 : kG (Cond.code yX7_readsHead cX7_readsHead 2 (some .boolean)) := ⟨tk_5 _ (List.mem_of_getElem? (i := 0) (by decide +kernel)), Or.inl rfl⟩
theorem wd_263 : kG (Cond.fieldLink RX7 104 "ClosePacking$Reader" "number" "I") := ⟨tk_1 _ (List.mem_of_getElem? (i := 57) (by decide +kernel)), Or.inl rfl⟩
theorem wd_264 : kG (Cond.methodLink RX7 97 yX7_takesWord) := ⟨tk_5 _ (List.mem_of_getElem? (i := 2) (by decide +kernel)), Or.inl rfl⟩
theorem wd_265 : kG (Cond.instanceMethod yX7_takesWord) := ⟨tk_5 _ (List.mem_of_getElem? (i := 4) (by decide +kernel)), Or.inl rfl⟩
theorem wd_266 : kG (Cond.selects RX7 yX7_takesWord yX7_takesWord) := ⟨List.mem_of_getElem? (i := 18) (by decide +kernel), Or.inl rfl⟩
theorem wd_267 : kG (Cond.code yX7_takesWord cX7_takesWord 2 (some .boolean)) := ⟨tk_5 _ (List.mem_of_getElem? (i := 5) (by decide +kernel)), Or.inl rfl⟩
theorem gp_wsL_told_r8 : GoodIn lw_tbl wsL_told_r8 := k_gc wd_244 (k_gc wd_245 (k_gc wd_246 (k_gc wd_247 (k_gc wd_248 (k_gc wd_249 (k_gc wd_250 (k_gc wd_251 (k_gc wd_252 (k_gc wd_253 (k_gc wd_254 (k_gc wd_255 (k_gc wd_256 (k_gc wd_257 (k_gc wd_258 (k_gc wd_259 (k_gc wd_260 (k_gc wd_261 (k_gc wd_262 (k_gc wd_263 (k_gc wd_264 (k_gc wd_265 (k_gc wd_266 (k_gc wd_267 k_gn)))))))))))))))))))))))
theorem wd_268 : kG (Cond.methodLink RX7 100 yX7_takesNumber) := ⟨tk_5 _ (List.mem_of_getElem? (i := 6) (by decide +kernel)), Or.inl rfl⟩
theorem wd_269 : kG (Cond.instanceMethod yX7_takesNumber) := ⟨tk_5 _ (List.mem_of_getElem? (i := 8) (by decide +kernel)), Or.inl rfl⟩
theorem wd_270 : kG (Cond.selects RX7 yX7_takesNumber yX7_takesNumber) := ⟨List.mem_of_getElem? (i := 19) (by decide +kernel), Or.inl rfl⟩
theorem wd_271 : kG (Cond.code yX7_takesNumber cX7_takesNumber 2 (some .boolean)) := ⟨tk_5 _ (List.mem_of_getElem? (i := 9) (by decide +kernel)), Or.inl rfl⟩
theorem wd_272 : kG (Cond.methodLink RX7 119 yX7_isWholeWithin) := ⟨tk_5 _ (List.mem_of_getElem? (i := 10) (by decide +kernel)), Or.inl rfl⟩
theorem wd_273 : kG (Cond.instanceMethod yX7_isWholeWithin) := ⟨tk_5 _ (List.mem_of_getElem? (i := 12) (by decide +kernel)), Or.inl rfl⟩
theorem wd_274 : kG (Cond.selects RX7 yX7_isWholeWithin yX7_isWholeWithin) := ⟨List.mem_of_getElem? (i := 20) (by decide +kernel), Or.inl rfl⟩
theorem wd_275 : kG (Cond.code yX7_isWholeWithin cX7_isWholeWithin 3 (some .boolean)) := ⟨tk_5 _ (List.mem_of_getElem? (i := 13) (by decide +kernel)), Or.inl rfl⟩
theorem wd_276 : kG (Cond.methodLink RX7 86 yX7_readsStack) := ⟨tk_5 _ (List.mem_of_getElem? (i := 17) (by decide +kernel)), Or.inl rfl⟩
theorem wd_277 : kG (Cond.instanceMethod yX7_readsStack) := ⟨tk_5 _ (List.mem_of_getElem? (i := 19) (by decide +kernel)), Or.inl rfl⟩
theorem wd_278 : kG (Cond.selects RX7 yX7_readsStack yX7_readsStack) := ⟨List.mem_of_getElem? (i := 21) (by decide +kernel), Or.inl rfl⟩
theorem wd_279 : kG (Cond.code yX7_readsStack cX7_readsStack 5 (some .boolean)) := ⟨tk_5 _ (List.mem_of_getElem? (i := 20) (by decide +kernel)), Or.inl rfl⟩
theorem wd_280 : kG (Cond.methodLink RX7 125 yX7_isName) := ⟨tk_5 _ (List.mem_of_getElem? (i := 21) (by decide +kernel)), Or.inl rfl⟩
theorem wd_281 : kG (Cond.instanceMethod yX7_isName) := ⟨tk_5 _ (List.mem_of_getElem? (i := 23) (by decide +kernel)), Or.inl rfl⟩
theorem wd_282 : kG (Cond.selects RX7 yX7_isName yX7_isName) := ⟨List.mem_of_getElem? (i := 22) (by decide +kernel), Or.inl rfl⟩
theorem wd_283 : kG (Cond.code yX7_isName cX7_isName 2 (some .boolean)) := ⟨tk_5 _ (List.mem_of_getElem? (i := 24) (by decide +kernel)), Or.inl rfl⟩
theorem wd_284 : kG (Cond.methodLink RX7 132 yX4_stackNamed) := ⟨tk_5 _ (List.mem_of_getElem? (i := 25) (by decide +kernel)), Or.inl rfl⟩
theorem wd_285 : kG (Cond.instanceMethod yX4_stackNamed) := ⟨tk_5 _ (List.mem_of_getElem? (i := 26) (by decide +kernel)), Or.inl rfl⟩
theorem wd_286 : kG (Cond.selects RX4 yX4_stackNamed yX4_stackNamed) := ⟨tk_5 _ (List.mem_of_getElem? (i := 27) (by decide +kernel)), Or.inl rfl⟩
theorem wd_287 : kG (Cond.code yX4_stackNamed cX4_stackNamed 4 (some .int)) := ⟨tk_5 _ (List.mem_of_getElem? (i := 28) (by decide +kernel)), Or.inl rfl⟩
theorem wd_288 : kG (Cond.methodLink RX7 136 yX7_rowOfWord) := ⟨tk_5 _ (List.mem_of_getElem? (i := 29) (by decide +kernel)), Or.inl rfl⟩
theorem wd_289 : kG (Cond.instanceMethod yX7_rowOfWord) := ⟨tk_5 _ (List.mem_of_getElem? (i := 31) (by decide +kernel)), Or.inl rfl⟩
theorem wd_290 : kG (Cond.selects RX7 yX7_rowOfWord yX7_rowOfWord) := ⟨List.mem_of_getElem? (i := 23) (by decide +kernel), Or.inl rfl⟩
theorem gp_wsL_told_r9 : GoodIn lw_tbl wsL_told_r9 := k_gc wd_268 (k_gc wd_269 (k_gc wd_270 (k_gc wd_271 (k_gc wd_272 (k_gc wd_273 (k_gc wd_274 (k_gc wd_275 (k_gc wd_276 (k_gc wd_277 (k_gc wd_278 (k_gc wd_279 (k_gc wd_280 (k_gc wd_281 (k_gc wd_282 (k_gc wd_283 (k_gc wd_284 (k_gc wd_285 (k_gc wd_286 (k_gc wd_287 (k_gc wd_82 (k_gc wd_288 (k_gc wd_289 (k_gc wd_290 k_gn)))))))))))))))))))))))
theorem wd_291 : kG (Cond.code yX7_rowOfWord cX7_rowOfWord 4 (some .int)) := ⟨tk_5 _ (List.mem_of_getElem? (i := 32) (by decide +kernel)), Or.inl rfl⟩
theorem wd_292 : kG (Cond.methodLink RX7 143 yX4_addStack) := ⟨tk_5 _ (List.mem_of_getElem? (i := 33) (by decide +kernel)), Or.inl rfl⟩
theorem wd_293 : kG (Cond.instanceMethod yX4_addStack) := ⟨tk_5 _ (List.mem_of_getElem? (i := 34) (by decide +kernel)), Or.inl rfl⟩
theorem wd_294 : kG (Cond.selects RX4 yX4_addStack yX4_addStack) := ⟨tk_5 _ (List.mem_of_getElem? (i := 35) (by decide +kernel)), Or.inl rfl⟩
theorem wd_295 : kG (Cond.code yX4_addStack cX4_addStack 6 none) := ⟨tk_5 _ (List.mem_of_getElem? (i := 36) (by decide +kernel)), Or.inl rfl⟩
theorem wd_296 : kG (Cond.methodLink RX4 52 yX9_put) := ⟨tk_5 _ (List.mem_of_getElem? (i := 37) (by decide +kernel)), Or.inl rfl⟩
theorem wd_297 : kG (Cond.instanceMethod yX9_put) := ⟨tk_4 _ (List.mem_of_getElem? (i := 53) (by decide +kernel)), Or.inl rfl⟩
theorem wd_298 : kG (Cond.selects RX9 yX9_put yX9_put) := ⟨tk_4 _ (List.mem_of_getElem? (i := 54) (by decide +kernel)), Or.inl rfl⟩
theorem wd_299 : kG (Cond.code yX9_put cX9_put 4 none) := ⟨tk_4 _ (List.mem_of_getElem? (i := 55) (by decide +kernel)), Or.inl rfl⟩
theorem wd_300 : kG (Cond.static yX11_set) := ⟨tk_2 _ (List.mem_of_getElem? (i := 197) (by decide +kernel)), Or.inl rfl⟩
theorem wd_301 : kG (Cond.code yX11_set cX11_set 3 none) := ⟨tk_2 _ (List.mem_of_getElem? (i := 198) (by decide +kernel)), Or.inl rfl⟩
theorem wd_302 : kG (Cond.methodLink RX7 89 yX7_readsUnsure) := ⟨tk_5 _ (List.mem_of_getElem? (i := 38) (by decide +kernel)), Or.inl rfl⟩
theorem wd_303 : kG (Cond.instanceMethod yX7_readsUnsure) := ⟨tk_5 _ (List.mem_of_getElem? (i := 40) (by decide +kernel)), Or.inl rfl⟩
theorem wd_304 : kG (Cond.selects RX7 yX7_readsUnsure yX7_readsUnsure) := ⟨List.mem_of_getElem? (i := 24) (by decide +kernel), Or.inl rfl⟩
theorem wd_305 : kG (Cond.code yX7_readsUnsure cX7_readsUnsure 3 (some .boolean)) := ⟨tk_5 _ (List.mem_of_getElem? (i := 41) (by decide +kernel)), Or.inl rfl⟩
theorem wd_306 : kG (Cond.methodLink RX7 147 yX7_stackOfName) := ⟨tk_5 _ (List.mem_of_getElem? (i := 42) (by decide +kernel)), Or.inl rfl⟩
theorem wd_307 : kG (Cond.instanceMethod yX7_stackOfName) := ⟨tk_5 _ (List.mem_of_getElem? (i := 44) (by decide +kernel)), Or.inl rfl⟩
theorem wd_308 : kG (Cond.selects RX7 yX7_stackOfName yX7_stackOfName) := ⟨List.mem_of_getElem? (i := 25) (by decide +kernel), Or.inl rfl⟩
theorem wd_309 : kG (Cond.code yX7_stackOfName cX7_stackOfName 3 (some .int)) := ⟨tk_5 _ (List.mem_of_getElem? (i := 45) (by decide +kernel)), Or.inl rfl⟩
theorem wd_310 : kG (Cond.methodLink RX7 151 yX4_isUnsure) := ⟨tk_5 _ (List.mem_of_getElem? (i := 46) (by decide +kernel)), Or.inl rfl⟩
theorem wd_311 : kG (Cond.instanceMethod yX4_isUnsure) := ⟨tk_5 _ (List.mem_of_getElem? (i := 47) (by decide +kernel)), Or.inl rfl⟩
theorem gp_wsL_told_r10 : GoodIn lw_tbl wsL_told_r10 := k_gc wd_291 (k_gc wd_292 (k_gc wd_293 (k_gc wd_294 (k_gc wd_295 (k_gc wd_296 (k_gc wd_297 (k_gc wd_298 (k_gc wd_14 (k_gc wd_299 (k_gc wd_51 (k_gc wd_52 (k_gc wd_300 (k_gc wd_301 (k_gc wd_302 (k_gc wd_303 (k_gc wd_304 (k_gc wd_305 (k_gc wd_306 (k_gc wd_307 (k_gc wd_308 (k_gc wd_309 (k_gc wd_310 (k_gc wd_311 k_gn)))))))))))))))))))))))
theorem wd_312 : kG (Cond.selects RX4 yX4_isUnsure yX4_isUnsure) := ⟨tk_5 _ (List.mem_of_getElem? (i := 48) (by decide +kernel)), Or.inl rfl⟩
theorem wd_313 : kG (Cond.code yX4_isUnsure cX4_isUnsure 4 (some .boolean)) := ⟨tk_5 _ (List.mem_of_getElem? (i := 49) (by decide +kernel)), Or.inl rfl⟩
theorem wd_314 : kG (Cond.static yX11_at) := ⟨tk_2 _ (List.mem_of_getElem? (i := 77) (by decide +kernel)), Or.inl rfl⟩
theorem wd_315 : kG (Cond.code yX11_at cX11_at 2 (some .int)) := ⟨tk_2 _ (List.mem_of_getElem? (i := 78) (by decide +kernel)), Or.inl rfl⟩
theorem wd_316 : kG (Cond.methodLink RX7 154 yX9_steps) := ⟨tk_5 _ (List.mem_of_getElem? (i := 51) (by decide +kernel)), Or.inl rfl⟩
theorem wd_317 : kG (Cond.instanceMethod yX9_steps) := ⟨tk_2 _ (List.mem_of_getElem? (i := 80) (by decide +kernel)), Or.inl rfl⟩
theorem wd_318 : kG (Cond.selects RX9 yX9_steps yX9_steps) := ⟨tk_2 _ (List.mem_of_getElem? (i := 81) (by decide +kernel)), Or.inl rfl⟩
theorem wd_319 : kG (Cond.code yX9_steps cX9_steps 2 (some .int)) := ⟨tk_2 _ (List.mem_of_getElem? (i := 82) (by decide +kernel)), Or.inl rfl⟩
theorem wd_320 : kG (Cond.methodLink RX7 158 yX4_addUnsure) := ⟨tk_5 _ (List.mem_of_getElem? (i := 52) (by decide +kernel)), Or.inl rfl⟩
theorem wd_321 : kG (Cond.instanceMethod yX4_addUnsure) := ⟨tk_5 _ (List.mem_of_getElem? (i := 53) (by decide +kernel)), Or.inl rfl⟩
theorem wd_322 : kG (Cond.selects RX4 yX4_addUnsure yX4_addUnsure) := ⟨tk_5 _ (List.mem_of_getElem? (i := 54) (by decide +kernel)), Or.inl rfl⟩
theorem wd_323 : kG (Cond.code yX4_addUnsure cX4_addUnsure 3 none) := ⟨tk_5 _ (List.mem_of_getElem? (i := 55) (by decide +kernel)), Or.inl rfl⟩
theorem wd_324 : kG (Cond.methodLink RX7 92 yX7_readsAgreed) := ⟨tk_5 _ (List.mem_of_getElem? (i := 57) (by decide +kernel)), Or.inl rfl⟩
theorem wd_325 : kG (Cond.instanceMethod yX7_readsAgreed) := ⟨tk_5 _ (List.mem_of_getElem? (i := 59) (by decide +kernel)), Or.inl rfl⟩
theorem wd_326 : kG (Cond.selects RX7 yX7_readsAgreed yX7_readsAgreed) := ⟨List.mem_of_getElem? (i := 26) (by decide +kernel), Or.inl rfl⟩
theorem wd_327 : kG (Cond.code yX7_readsAgreed cX7_readsAgreed 4 (some .boolean)) := ⟨tk_5 _ (List.mem_of_getElem? (i := 60) (by decide +kernel)), Or.inl rfl⟩
theorem wd_328 : kG (Cond.methodLink RX7 162 yX4_isAgreed) := ⟨tk_5 _ (List.mem_of_getElem? (i := 61) (by decide +kernel)), Or.inl rfl⟩
theorem wd_329 : kG (Cond.instanceMethod yX4_isAgreed) := ⟨tk_5 _ (List.mem_of_getElem? (i := 62) (by decide +kernel)), Or.inl rfl⟩
theorem wd_330 : kG (Cond.selects RX4 yX4_isAgreed yX4_isAgreed) := ⟨tk_5 _ (List.mem_of_getElem? (i := 63) (by decide +kernel)), Or.inl rfl⟩
theorem wd_331 : kG (Cond.code yX4_isAgreed cX4_isAgreed 4 (some .boolean)) := ⟨tk_5 _ (List.mem_of_getElem? (i := 64) (by decide +kernel)), Or.inl rfl⟩
theorem gp_wsL_told_r11 : GoodIn lw_tbl wsL_told_r11 := k_gc wd_312 (k_gc wd_313 (k_gc wd_83 (k_gc wd_84 (k_gc wd_314 (k_gc wd_315 (k_gc wd_316 (k_gc wd_317 (k_gc wd_318 (k_gc wd_319 (k_gc wd_320 (k_gc wd_321 (k_gc wd_322 (k_gc wd_323 (k_gc wd_324 (k_gc wd_325 (k_gc wd_326 (k_gc wd_327 (k_gc wd_328 (k_gc wd_329 (k_gc wd_330 (k_gc wd_331 (k_gc wd_85 (k_gc wd_86 k_gn)))))))))))))))))))))))
theorem wd_332 : kG (Cond.methodLink RX7 165 yX4_addAgreed) := ⟨tk_5 _ (List.mem_of_getElem? (i := 65) (by decide +kernel)), Or.inl rfl⟩
theorem wd_333 : kG (Cond.instanceMethod yX4_addAgreed) := ⟨tk_5 _ (List.mem_of_getElem? (i := 66) (by decide +kernel)), Or.inl rfl⟩
theorem wd_334 : kG (Cond.selects RX4 yX4_addAgreed yX4_addAgreed) := ⟨tk_5 _ (List.mem_of_getElem? (i := 67) (by decide +kernel)), Or.inl rfl⟩
theorem wd_335 : kG (Cond.code yX4_addAgreed cX4_addAgreed 4 none) := ⟨tk_5 _ (List.mem_of_getElem? (i := 68) (by decide +kernel)), Or.inl rfl⟩
theorem wd_336 : kG (Cond.methodLink RX11 105 yX9_copy) := ⟨tk_5 _ (List.mem_of_getElem? (i := 69) (by decide +kernel)), Or.inl rfl⟩
theorem wd_337 : kG (Cond.instanceMethod yX9_copy) := ⟨tk_5 _ (List.mem_of_getElem? (i := 70) (by decide +kernel)), Or.inl rfl⟩
theorem wd_338 : kG (Cond.selects RX9 yX9_copy yX9_copy) := ⟨tk_5 _ (List.mem_of_getElem? (i := 71) (by decide +kernel)), Or.inl rfl⟩
theorem wd_339 : kG (Cond.code yX9_copy cX9_copy 3 none) := ⟨tk_5 _ (List.mem_of_getElem? (i := 72) (by decide +kernel)), Or.inl rfl⟩
theorem wd_340 : kG (Cond.fieldLink RX9 26 "ClosePacking$Stacks" "count" "I") := ⟨tk_1 _ (List.mem_of_getElem? (i := 92) (by decide +kernel)), Or.inl rfl⟩
theorem wd_341 : kG (Cond.methodLink RX9 30 yX9_row) := ⟨tk_5 _ (List.mem_of_getElem? (i := 73) (by decide +kernel)), Or.inl rfl⟩
theorem wd_342 : kG (Cond.instanceMethod yX9_row) := ⟨tk_2 _ (List.mem_of_getElem? (i := 73) (by decide +kernel)), Or.inl rfl⟩
theorem wd_343 : kG (Cond.selects RX9 yX9_row yX9_row) := ⟨tk_2 _ (List.mem_of_getElem? (i := 74) (by decide +kernel)), Or.inl rfl⟩
theorem wd_344 : kG (Cond.code yX9_row cX9_row 2 (some .int)) := ⟨tk_2 _ (List.mem_of_getElem? (i := 75) (by decide +kernel)), Or.inl rfl⟩
theorem wd_345 : kG (Cond.methodLink RX9 34 yX9_steps) := ⟨tk_5 _ (List.mem_of_getElem? (i := 74) (by decide +kernel)), Or.inl rfl⟩
theorem wd_346 : kG (Cond.methodLink RX9 37 yX9_put) := ⟨tk_5 _ (List.mem_of_getElem? (i := 75) (by decide +kernel)), Or.inl rfl⟩
theorem wd_347 : kG (Cond.methodLink RX11 114 yX11_granted) := ⟨tk_2 _ (List.mem_of_getElem? (i := 83) (by decide +kernel)), Or.inl rfl⟩
theorem wd_348 : kG (Cond.instanceMethod yX11_granted) := ⟨tk_2 _ (List.mem_of_getElem? (i := 85) (by decide +kernel)), Or.inl rfl⟩
theorem wd_349 : kG (Cond.selects RX11 yX11_granted yX11_granted) := ⟨List.mem_of_getElem? (i := 2) (by decide +kernel), Or.inl rfl⟩
theorem wd_350 : kG (Cond.code yX11_granted cX11_granted 2 (some .int)) := ⟨tk_2 _ (List.mem_of_getElem? (i := 86) (by decide +kernel)), Or.inl rfl⟩
theorem gp_wsL_told_r12 : GoodIn lw_tbl wsL_told_r12 := k_gc wd_332 (k_gc wd_333 (k_gc wd_334 (k_gc wd_335 (k_gc wd_87 (k_gc wd_336 (k_gc wd_337 (k_gc wd_338 (k_gc wd_339 (k_gc wd_340 (k_gc wd_341 (k_gc wd_342 (k_gc wd_343 (k_gc wd_344 (k_gc wd_345 (k_gc wd_346 (k_gc wd_347 (k_gc wd_348 (k_gc wd_349 (k_gc wd_350 k_gn)))))))))))))))))))
theorem gp_wsL_told : GoodIn lw_tbl wsL_told := k_gc wd_88 (goodIn_app (goodIn_app (goodIn_app (goodIn_app (goodIn_app (goodIn_app (goodIn_app (goodIn_app (gp_wsL_told_r1) (goodIn_app (gp_wsL_told_r2) (goodIn_app (gp_wsL_told_r3) (goodIn_app (gp_wsL_told_r4) (goodIn_app (gp_wsL_told_r5) (goodIn_app (gp_wsL_told_r6) (goodIn_app (gp_wsL_told_r7) (goodIn_app (gp_wsL_told_r8) (goodIn_app (gp_wsL_told_r9) (goodIn_app (gp_wsL_told_r10) (goodIn_app (gp_wsL_told_r11) (gp_wsL_told_r12)))))))))))) (k_G_wsX110)) (k_G_wsX100)) (k_G_wsX70)) (k_G_wsX40)) (k_G_wsX00)) (k_G_wsX30)) (k_G_wsX90))
theorem wd_351 : kG (Cond.methodLink RL 111 yL_told) := ⟨tk_4 _ (List.mem_of_getElem? (i := 85) (by decide +kernel)), Or.inl rfl⟩
theorem wd_352 : kG (Cond.static yL_told) := ⟨tk_4 _ (List.mem_of_getElem? (i := 86) (by decide +kernel)), Or.inl rfl⟩
theorem wd_353 : kG (Cond.code yX11_image cX11_image 1 (some .int)) := ⟨tk_4 _ (List.mem_of_getElem? (i := 60) (by decide +kernel)), Or.inl rfl⟩
theorem wd_354 : kG (Cond.methodLink RX11 331 yX3_keep) := ⟨tk_4 _ (List.mem_of_getElem? (i := 61) (by decide +kernel)), Or.inl rfl⟩
theorem wd_355 : kG (Cond.instanceMethod yX3_keep) := ⟨tk_4 _ (List.mem_of_getElem? (i := 62) (by decide +kernel)), Or.inl rfl⟩
theorem wd_356 : kG (Cond.selects RX3 yX3_keep yX3_keep) := ⟨tk_4 _ (List.mem_of_getElem? (i := 63) (by decide +kernel)), Or.inl rfl⟩
theorem wd_357 : kG (Cond.code yX3_keep cX3_keep 3 (some .int)) := ⟨tk_4 _ (List.mem_of_getElem? (i := 64) (by decide +kernel)), Or.inl rfl⟩
theorem wd_358 : kG (Cond.fieldLink RX3 18 "ClosePacking$Images" "count" "I") := ⟨tk_1 _ (List.mem_of_getElem? (i := 129) (by decide +kernel)), Or.inl rfl⟩
theorem wd_359 : kG (Cond.methodLink RX3 22 yX9_row) := ⟨tk_4 _ (List.mem_of_getElem? (i := 65) (by decide +kernel)), Or.inl rfl⟩
theorem gp_wsX11_image_r1 : GoodIn lw_tbl wsX11_image_r1 := k_gc wd_35 (k_gc wd_23 (k_gc wd_15 (k_gc wd_144 (k_gc wd_145 (k_gc wd_146 (k_gc wd_112 (k_gc wd_147 (k_gc wd_148 (k_gc wd_354 (k_gc wd_355 (k_gc wd_356 (k_gc wd_22 (k_gc wd_357 (k_gc wd_62 (k_gc wd_358 (k_gc wd_63 (k_gc wd_359 (k_gc wd_342 (k_gc wd_343 (k_gc wd_14 (k_gc wd_344 (k_gc wd_51 (k_gc wd_314 k_gn)))))))))))))))))))))))
theorem wd_360 : kG (Cond.methodLink RX3 32 yX9_steps) := ⟨tk_4 _ (List.mem_of_getElem? (i := 67) (by decide +kernel)), Or.inl rfl⟩
theorem gp_wsX11_image_r2 : GoodIn lw_tbl wsX11_image_r2 := k_gc wd_315 (k_gc wd_300 (k_gc wd_301 (k_gc wd_360 (k_gc wd_317 (k_gc wd_318 (k_gc wd_319 (k_gc wd_52 (k_gc wd_347 (k_gc wd_348 (k_gc wd_349 (k_gc wd_350 k_gn)))))))))))
theorem gp_wsX11_image : GoodIn lw_tbl wsX11_image := k_gc wd_353 (goodIn_app (goodIn_app (goodIn_app (goodIn_app (goodIn_app (gp_wsX11_image_r1) (gp_wsX11_image_r2)) (k_G_wsX110)) (k_G_wsX40)) (k_G_wsX30)) (k_G_wsX90))
theorem wd_361 : kG (Cond.methodLink RL 115 yX11_image) := ⟨tk_4 _ (List.mem_of_getElem? (i := 57) (by decide +kernel)), Or.inl rfl⟩
theorem wd_362 : kG (Cond.instanceMethod yX11_image) := ⟨tk_4 _ (List.mem_of_getElem? (i := 58) (by decide +kernel)), Or.inl rfl⟩
theorem wd_363 : kG (Cond.selects RX11 yX11_image yX11_image) := ⟨tk_4 _ (List.mem_of_getElem? (i := 59) (by decide +kernel)), Or.inl rfl⟩
theorem wd_364 : kG (Cond.code yX11_groundMany cX11_groundMany 2 (some .int)) := ⟨tk_3 _ (List.mem_of_getElem? (i := 21) (by decide +kernel)), Or.inl rfl⟩
theorem wd_365 : kG (Cond.methodLink RX11 180 yX11_lacksGround) := ⟨tk_2 _ (List.mem_of_getElem? (i := 228) (by decide +kernel)), Or.inl rfl⟩
theorem wd_366 : kG (Cond.instanceMethod yX11_lacksGround) := ⟨tk_2 _ (List.mem_of_getElem? (i := 230) (by decide +kernel)), Or.inl rfl⟩
theorem wd_367 : kG (Cond.selects RX11 yX11_lacksGround yX11_lacksGround) := ⟨List.mem_of_getElem? (i := 6) (by decide +kernel), Or.inl rfl⟩
theorem wd_368 : kG (Cond.code yX11_lacksGround cX11_lacksGround 2 (some .boolean)) := ⟨tk_2 _ (List.mem_of_getElem? (i := 231) (by decide +kernel)), Or.inl rfl⟩
theorem wd_369 : kG (Cond.methodLink RX11 183 yX11_groundTrouble) := ⟨tk_2 _ (List.mem_of_getElem? (i := 232) (by decide +kernel)), Or.inl rfl⟩
theorem wd_370 : kG (Cond.instanceMethod yX11_groundTrouble) := ⟨tk_2 _ (List.mem_of_getElem? (i := 234) (by decide +kernel)), Or.inl rfl⟩
theorem wd_371 : kG (Cond.selects RX11 yX11_groundTrouble yX11_groundTrouble) := ⟨List.mem_of_getElem? (i := 7) (by decide +kernel), Or.inl rfl⟩
theorem wd_372 : kG (Cond.code yX11_groundTrouble cX11_groundTrouble 1 (some .int)) := ⟨tk_2 _ (List.mem_of_getElem? (i := 235) (by decide +kernel)), Or.inl rfl⟩
theorem wd_373 : kG (Cond.methodLink RX11 187 yX5_survey) := ⟨tk_2 _ (List.mem_of_getElem? (i := 236) (by decide +kernel)), Or.inl rfl⟩
theorem wd_374 : kG (Cond.instanceMethod yX5_survey) := ⟨tk_2 _ (List.mem_of_getElem? (i := 237) (by decide +kernel)), Or.inl rfl⟩
theorem wd_375 : kG (Cond.selects RX5 yX5_survey yX5_survey) := ⟨tk_2 _ (List.mem_of_getElem? (i := 238) (by decide +kernel)), Or.inl rfl⟩
theorem wd_376 : kG (Cond.code yX5_survey cX5_survey 4 none) := ⟨tk_2 _ (List.mem_of_getElem? (i := 239) (by decide +kernel)), Or.inl rfl⟩
theorem wd_377 : kG (Cond.fieldLink RX5 22 "ClosePacking$Landscape" "steps" "I") := ⟨tk_1 _ (List.mem_of_getElem? (i := 160) (by decide +kernel)), Or.inl rfl⟩
theorem wd_378 : kG (Cond.fieldLink RX5 26 "ClosePacking$Landscape" "rows" "I") := ⟨tk_1 _ (List.mem_of_getElem? (i := 161) (by decide +kernel)), Or.inl rfl⟩
theorem gp_wsX11_groundMany_r1 : GoodIn lw_tbl wsX11_groundMany_r1 := k_gc wd_31 (k_gc wd_35 (k_gc wd_365 (k_gc wd_366 (k_gc wd_367 (k_gc wd_112 (k_gc wd_368 (k_gc wd_369 (k_gc wd_370 (k_gc wd_371 (k_gc wd_372 (k_gc wd_144 (k_gc wd_145 (k_gc wd_146 (k_gc wd_147 (k_gc wd_148 (k_gc wd_373 (k_gc wd_374 (k_gc wd_375 (k_gc wd_30 (k_gc wd_376 (k_gc wd_377 (k_gc wd_378 (k_gc wd_72 k_gn)))))))))))))))))))))))
theorem wd_379 : kG (Cond.methodLink RX5 29 yX4_energyOf) := ⟨tk_3 _ (List.mem_of_getElem? (i := 0) (by decide +kernel)), Or.inl rfl⟩
theorem wd_380 : kG (Cond.instanceMethod yX4_energyOf) := ⟨tk_2 _ (List.mem_of_getElem? (i := 170) (by decide +kernel)), Or.inl rfl⟩
theorem wd_381 : kG (Cond.selects RX4 yX4_energyOf yX4_energyOf) := ⟨tk_2 _ (List.mem_of_getElem? (i := 171) (by decide +kernel)), Or.inl rfl⟩
theorem wd_382 : kG (Cond.code yX4_energyOf cX4_energyOf 6 (some .int)) := ⟨tk_2 _ (List.mem_of_getElem? (i := 172) (by decide +kernel)), Or.inl rfl⟩
theorem wd_383 : kG (Cond.fieldLink RX4 70 "ClosePacking$Lab" "near" "I") := ⟨tk_1 _ (List.mem_of_getElem? (i := 200) (by decide +kernel)), Or.inl rfl⟩
theorem wd_384 : kG (Cond.fieldLink RX4 77 "ClosePacking$Lab" "second" "I") := ⟨tk_1 _ (List.mem_of_getElem? (i := 203) (by decide +kernel)), Or.inl rfl⟩
theorem wd_385 : kG (Cond.fieldLink RX4 80 "ClosePacking$Lab" "third" "I") := ⟨tk_1 _ (List.mem_of_getElem? (i := 206) (by decide +kernel)), Or.inl rfl⟩
theorem wd_386 : kG (Cond.methodLink RX4 64 yX8_turned) := ⟨tk_2 _ (List.mem_of_getElem? (i := 173) (by decide +kernel)), Or.inl rfl⟩
theorem wd_387 : kG (Cond.static yX8_turned) := ⟨tk_2 _ (List.mem_of_getElem? (i := 103) (by decide +kernel)), Or.inl rfl⟩
theorem wd_388 : kG (Cond.initialized RX8) := ⟨tk_1 _ (List.mem_of_getElem? (i := 14) (by decide +kernel)), Or.inl rfl⟩
theorem wd_389 : kG (Cond.code yX8_turned cX8_turned 3 (some .int)) := ⟨tk_2 _ (List.mem_of_getElem? (i := 104) (by decide +kernel)), Or.inl rfl⟩
theorem wd_390 : kG (Cond.methodLink RX4 73 yX4_products) := ⟨tk_2 _ (List.mem_of_getElem? (i := 174) (by decide +kernel)), Or.inl rfl⟩
theorem wd_391 : kG (Cond.static yX4_products) := ⟨tk_2 _ (List.mem_of_getElem? (i := 175) (by decide +kernel)), Or.inl rfl⟩
theorem wd_392 : kG (Cond.code yX4_products cX4_products 3 (some .int)) := ⟨tk_2 _ (List.mem_of_getElem? (i := 176) (by decide +kernel)), Or.inl rfl⟩
theorem wd_393 : kG (Cond.methodLink RX4 83 yJ6_bitCount_0f7a4) := ⟨tk_2 _ (List.mem_of_getElem? (i := 177) (by decide +kernel)), Or.inl rfl⟩
theorem wd_394 : kG (Cond.static yJ6_bitCount_0f7a4) := ⟨tk_2 _ (List.mem_of_getElem? (i := 94) (by decide +kernel)), Or.inl rfl⟩
theorem wd_395 : kG (Cond.initialized RJ6) := ⟨tk_1 _ (List.mem_of_getElem? (i := 15) (by decide +kernel)), Or.inl rfl⟩
theorem wd_396 : kG (Cond.code yJ6_bitCount_0f7a4 cJ6_bitCount_0f7a4 1 (some .int)) := ⟨tk_2 _ (List.mem_of_getElem? (i := 95) (by decide +kernel)), Or.inl rfl⟩
theorem wd_397 : kG (Cond.constant RJ6 265 (1431655765)) := ⟨tk_2 _ (List.mem_of_getElem? (i := 96) (by decide +kernel)), Or.inl rfl⟩
theorem wd_398 : kG (Cond.constant RJ6 266 (858993459)) := ⟨tk_2 _ (List.mem_of_getElem? (i := 97) (by decide +kernel)), Or.inl rfl⟩
theorem wd_399 : kG (Cond.constant RJ6 267 (252645135)) := ⟨tk_2 _ (List.mem_of_getElem? (i := 98) (by decide +kernel)), Or.inl rfl⟩
theorem gp_wsX11_groundMany_r2 : GoodIn lw_tbl wsX11_groundMany_r2 := k_gc wd_379 (k_gc wd_380 (k_gc wd_381 (k_gc wd_34 (k_gc wd_382 (k_gc wd_383 (k_gc wd_384 (k_gc wd_385 (k_gc wd_386 (k_gc wd_387 (k_gc wd_388 (k_gc wd_389 (k_gc wd_390 (k_gc wd_391 (k_gc wd_392 (k_gc wd_393 (k_gc wd_394 (k_gc wd_395 (k_gc wd_396 (k_gc wd_397 (k_gc wd_398 (k_gc wd_399 (k_gc wd_300 (k_gc wd_301 k_gn)))))))))))))))))))))))
theorem wd_400 : kG (Cond.methodLink RX11 197 yX5_lowestMany) := ⟨tk_3 _ (List.mem_of_getElem? (i := 22) (by decide +kernel)), Or.inl rfl⟩
theorem wd_401 : kG (Cond.instanceMethod yX5_lowestMany) := ⟨tk_3 _ (List.mem_of_getElem? (i := 23) (by decide +kernel)), Or.inl rfl⟩
theorem wd_402 : kG (Cond.selects RX5 yX5_lowestMany yX5_lowestMany) := ⟨tk_3 _ (List.mem_of_getElem? (i := 24) (by decide +kernel)), Or.inl rfl⟩
theorem wd_403 : kG (Cond.code yX5_lowestMany cX5_lowestMany 4 (some .int)) := ⟨tk_3 _ (List.mem_of_getElem? (i := 25) (by decide +kernel)), Or.inl rfl⟩
theorem wd_404 : kG (Cond.methodLink RX5 48 yX5_lowest) := ⟨tk_3 _ (List.mem_of_getElem? (i := 26) (by decide +kernel)), Or.inl rfl⟩
theorem wd_405 : kG (Cond.instanceMethod yX5_lowest) := ⟨tk_3 _ (List.mem_of_getElem? (i := 3) (by decide +kernel)), Or.inl rfl⟩
theorem wd_406 : kG (Cond.selects RX5 yX5_lowest yX5_lowest) := ⟨tk_3 _ (List.mem_of_getElem? (i := 4) (by decide +kernel)), Or.inl rfl⟩
theorem wd_407 : kG (Cond.code yX5_lowest cX5_lowest 3 (some .int)) := ⟨tk_3 _ (List.mem_of_getElem? (i := 5) (by decide +kernel)), Or.inl rfl⟩
theorem wd_408 : kG (Cond.methodLink RX5 43 Lib.Math.min.name) := ⟨tk_3 _ (List.mem_of_getElem? (i := 7) (by decide +kernel)), Or.inl rfl⟩
theorem wd_409 : kG (Cond.static Lib.Math.min.name) := ⟨tk_3 _ (List.mem_of_getElem? (i := 8) (by decide +kernel)), Or.inl rfl⟩
theorem wd_410 : kG (Cond.initialized "java/lang/Math") := ⟨tk_1 _ (List.mem_of_getElem? (i := 16) (by decide +kernel)), Or.inl rfl⟩
theorem wd_411 : kG (Cond.code Lib.Math.min.name Lib.Math.min.code 2 (some .int)) := ⟨tk_3 _ (List.mem_of_getElem? (i := 9) (by decide +kernel)), Or.inl rfl⟩
theorem gp_wsX11_groundMany_r3 : GoodIn lw_tbl wsX11_groundMany_r3 := k_gc wd_400 (k_gc wd_401 (k_gc wd_402 (k_gc wd_403 (k_gc wd_404 (k_gc wd_405 (k_gc wd_406 (k_gc wd_407 (k_gc wd_408 (k_gc wd_409 (k_gc wd_410 (k_gc wd_411 (k_gc wd_314 (k_gc wd_315 (k_gc wd_347 (k_gc wd_348 (k_gc wd_349 (k_gc wd_350 k_gn)))))))))))))))))
theorem gp_wsX11_groundMany : GoodIn lw_tbl wsX11_groundMany := k_gc wd_364 (goodIn_app (goodIn_app (goodIn_app (goodIn_app (gp_wsX11_groundMany_r1) (goodIn_app (gp_wsX11_groundMany_r2) (gp_wsX11_groundMany_r3))) (k_G_wsX110)) (k_G_wsX40)) (k_G_wsX50))
theorem wd_412 : kG (Cond.methodLink RL 118 yX11_groundMany) := ⟨tk_3 _ (List.mem_of_getElem? (i := 18) (by decide +kernel)), Or.inl rfl⟩
theorem wd_413 : kG (Cond.instanceMethod yX11_groundMany) := ⟨tk_3 _ (List.mem_of_getElem? (i := 19) (by decide +kernel)), Or.inl rfl⟩
theorem wd_414 : kG (Cond.selects RX11 yX11_groundMany yX11_groundMany) := ⟨tk_3 _ (List.mem_of_getElem? (i := 20) (by decide +kernel)), Or.inl rfl⟩
theorem wd_415 : kG (Cond.code yX11_groundRow cX11_groundRow 2 (some .int)) := ⟨tk_3 _ (List.mem_of_getElem? (i := 13) (by decide +kernel)), Or.inl rfl⟩
theorem gp_wsX11_groundRow_r1 : GoodIn lw_tbl wsX11_groundRow_r1 := k_gc wd_31 (k_gc wd_35 (k_gc wd_365 (k_gc wd_366 (k_gc wd_367 (k_gc wd_112 (k_gc wd_368 (k_gc wd_369 (k_gc wd_370 (k_gc wd_371 (k_gc wd_372 (k_gc wd_144 (k_gc wd_145 (k_gc wd_146 (k_gc wd_147 (k_gc wd_148 (k_gc wd_373 (k_gc wd_374 (k_gc wd_375 (k_gc wd_30 (k_gc wd_376 (k_gc wd_377 (k_gc wd_378 (k_gc wd_72 k_gn)))))))))))))))))))))))
theorem gp_wsX11_groundRow_r2 : GoodIn lw_tbl wsX11_groundRow_r2 := k_gc wd_379 (k_gc wd_380 (k_gc wd_381 (k_gc wd_34 (k_gc wd_382 (k_gc wd_383 (k_gc wd_384 (k_gc wd_385 (k_gc wd_386 (k_gc wd_387 (k_gc wd_388 (k_gc wd_389 (k_gc wd_390 (k_gc wd_391 (k_gc wd_392 (k_gc wd_393 (k_gc wd_394 (k_gc wd_395 (k_gc wd_396 (k_gc wd_397 (k_gc wd_398 (k_gc wd_399 (k_gc wd_300 (k_gc wd_301 k_gn)))))))))))))))))))))))
theorem wd_416 : kG (Cond.methodLink RX11 194 yX5_lowestRow) := ⟨tk_3 _ (List.mem_of_getElem? (i := 14) (by decide +kernel)), Or.inl rfl⟩
theorem wd_417 : kG (Cond.instanceMethod yX5_lowestRow) := ⟨tk_3 _ (List.mem_of_getElem? (i := 15) (by decide +kernel)), Or.inl rfl⟩
theorem wd_418 : kG (Cond.selects RX5 yX5_lowestRow yX5_lowestRow) := ⟨tk_3 _ (List.mem_of_getElem? (i := 16) (by decide +kernel)), Or.inl rfl⟩
theorem wd_419 : kG (Cond.code yX5_lowestRow cX5_lowestRow 3 (some .int)) := ⟨tk_3 _ (List.mem_of_getElem? (i := 17) (by decide +kernel)), Or.inl rfl⟩
theorem gp_wsX11_groundRow_r3 : GoodIn lw_tbl wsX11_groundRow_r3 := k_gc wd_416 (k_gc wd_417 (k_gc wd_418 (k_gc wd_419 (k_gc wd_314 (k_gc wd_315 (k_gc wd_347 (k_gc wd_348 (k_gc wd_349 (k_gc wd_350 k_gn)))))))))
theorem gp_wsX11_groundRow : GoodIn lw_tbl wsX11_groundRow := k_gc wd_415 (goodIn_app (goodIn_app (goodIn_app (goodIn_app (gp_wsX11_groundRow_r1) (goodIn_app (gp_wsX11_groundRow_r2) (gp_wsX11_groundRow_r3))) (k_G_wsX110)) (k_G_wsX40)) (k_G_wsX50))
theorem wd_420 : kG (Cond.methodLink RL 121 yX11_groundRow) := ⟨tk_3 _ (List.mem_of_getElem? (i := 10) (by decide +kernel)), Or.inl rfl⟩
theorem wd_421 : kG (Cond.instanceMethod yX11_groundRow) := ⟨tk_3 _ (List.mem_of_getElem? (i := 11) (by decide +kernel)), Or.inl rfl⟩
theorem wd_422 : kG (Cond.selects RX11 yX11_groundRow yX11_groundRow) := ⟨tk_3 _ (List.mem_of_getElem? (i := 12) (by decide +kernel)), Or.inl rfl⟩
theorem wd_423 : kG (Cond.code yL_energy cL_energy 6 (some .int)) := ⟨tk_5 _ (List.mem_of_getElem? (i := 78) (by decide +kernel)), Or.inl rfl⟩
theorem wd_424 : kG (Cond.methodLink RL 73 yL_step) := ⟨tk_5 _ (List.mem_of_getElem? (i := 79) (by decide +kernel)), Or.inl rfl⟩
theorem wd_425 : kG (Cond.static yL_step) := ⟨tk_5 _ (List.mem_of_getElem? (i := 80) (by decide +kernel)), Or.inl rfl⟩
theorem wd_426 : kG (Cond.code yL_step cL_step 3 (some .int)) := ⟨tk_5 _ (List.mem_of_getElem? (i := 81) (by decide +kernel)), Or.inl rfl⟩
theorem gp_wsL_energy : GoodIn lw_tbl wsL_energy := k_gc wd_423 (k_gc wd_424 (k_gc wd_425 (k_gc wd_97 (k_gc wd_426 k_gn))))
theorem wd_427 : kG (Cond.methodLink RL 124 yL_energy) := ⟨tk_5 _ (List.mem_of_getElem? (i := 76) (by decide +kernel)), Or.inl rfl⟩
theorem wd_428 : kG (Cond.static yL_energy) := ⟨tk_5 _ (List.mem_of_getElem? (i := 77) (by decide +kernel)), Or.inl rfl⟩
theorem wd_429 : kG (Cond.code yX11_ground cX11_ground 2 (some .int)) := ⟨tk_2 _ (List.mem_of_getElem? (i := 227) (by decide +kernel)), Or.inl rfl⟩
theorem wd_430 : kG (Cond.constant RX11 168 (-1000000)) := ⟨tk_2 _ (List.mem_of_getElem? (i := 168) (by decide +kernel)), Or.inl rfl⟩
theorem gp_wsX11_ground_r1 : GoodIn lw_tbl wsX11_ground_r1 := k_gc wd_430 (k_gc wd_31 (k_gc wd_35 (k_gc wd_365 (k_gc wd_366 (k_gc wd_367 (k_gc wd_112 (k_gc wd_368 (k_gc wd_369 (k_gc wd_370 (k_gc wd_371 (k_gc wd_372 (k_gc wd_144 (k_gc wd_145 (k_gc wd_146 (k_gc wd_147 (k_gc wd_148 (k_gc wd_373 (k_gc wd_374 (k_gc wd_375 (k_gc wd_30 (k_gc wd_376 (k_gc wd_377 (k_gc wd_378 k_gn)))))))))))))))))))))))
theorem gp_wsX11_ground_r2 : GoodIn lw_tbl wsX11_ground_r2 := k_gc wd_72 (k_gc wd_379 (k_gc wd_380 (k_gc wd_381 (k_gc wd_34 (k_gc wd_382 (k_gc wd_383 (k_gc wd_384 (k_gc wd_385 (k_gc wd_386 (k_gc wd_387 (k_gc wd_388 (k_gc wd_389 (k_gc wd_390 (k_gc wd_391 (k_gc wd_392 (k_gc wd_393 (k_gc wd_394 (k_gc wd_395 (k_gc wd_396 (k_gc wd_397 (k_gc wd_398 (k_gc wd_399 (k_gc wd_300 k_gn)))))))))))))))))))))))
theorem wd_431 : kG (Cond.methodLink RX11 191 yX5_lowest) := ⟨tk_3 _ (List.mem_of_getElem? (i := 2) (by decide +kernel)), Or.inl rfl⟩
theorem gp_wsX11_ground_r3 : GoodIn lw_tbl wsX11_ground_r3 := k_gc wd_301 (k_gc wd_431 (k_gc wd_405 (k_gc wd_406 (k_gc wd_407 (k_gc wd_408 (k_gc wd_409 (k_gc wd_410 (k_gc wd_411 (k_gc wd_314 (k_gc wd_315 (k_gc wd_347 (k_gc wd_348 (k_gc wd_349 (k_gc wd_350 k_gn))))))))))))))
theorem gp_wsX11_ground : GoodIn lw_tbl wsX11_ground := k_gc wd_429 (goodIn_app (goodIn_app (goodIn_app (goodIn_app (gp_wsX11_ground_r1) (goodIn_app (gp_wsX11_ground_r2) (gp_wsX11_ground_r3))) (k_G_wsX110)) (k_G_wsX40)) (k_G_wsX50))
theorem wd_432 : kG (Cond.methodLink RL 128 yX11_ground) := ⟨tk_2 _ (List.mem_of_getElem? (i := 224) (by decide +kernel)), Or.inl rfl⟩
theorem wd_433 : kG (Cond.instanceMethod yX11_ground) := ⟨tk_2 _ (List.mem_of_getElem? (i := 225) (by decide +kernel)), Or.inl rfl⟩
theorem wd_434 : kG (Cond.selects RX11 yX11_ground yX11_ground) := ⟨tk_2 _ (List.mem_of_getElem? (i := 226) (by decide +kernel)), Or.inl rfl⟩
theorem wd_435 : kG (Cond.code yX11_kinds cX11_kinds 7 (some .int)) := ⟨tk_3 _ (List.mem_of_getElem? (i := 34) (by decide +kernel)), Or.inl rfl⟩
theorem wd_436 : kG (Cond.methodLink RX11 200 yX11_isNoHow) := ⟨tk_3 _ (List.mem_of_getElem? (i := 35) (by decide +kernel)), Or.inl rfl⟩
theorem wd_437 : kG (Cond.static yX11_isNoHow) := ⟨tk_3 _ (List.mem_of_getElem? (i := 36) (by decide +kernel)), Or.inl rfl⟩
theorem wd_438 : kG (Cond.code yX11_isNoHow cX11_isNoHow 1 (some .boolean)) := ⟨tk_3 _ (List.mem_of_getElem? (i := 37) (by decide +kernel)), Or.inl rfl⟩
theorem wd_439 : kG (Cond.methodLink RX11 203 yX8_all) := ⟨tk_3 _ (List.mem_of_getElem? (i := 38) (by decide +kernel)), Or.inl rfl⟩
theorem wd_440 : kG (Cond.static yX8_all) := ⟨tk_3 _ (List.mem_of_getElem? (i := 39) (by decide +kernel)), Or.inl rfl⟩
theorem wd_441 : kG (Cond.code yX8_all cX8_all 1 (some .int)) := ⟨tk_3 _ (List.mem_of_getElem? (i := 40) (by decide +kernel)), Or.inl rfl⟩
theorem wd_442 : kG (Cond.methodLink RX11 206 yX8_closes) := ⟨tk_3 _ (List.mem_of_getElem? (i := 41) (by decide +kernel)), Or.inl rfl⟩
theorem wd_443 : kG (Cond.static yX8_closes) := ⟨tk_3 _ (List.mem_of_getElem? (i := 42) (by decide +kernel)), Or.inl rfl⟩
theorem wd_444 : kG (Cond.code yX8_closes cX8_closes 2 (some .boolean)) := ⟨tk_3 _ (List.mem_of_getElem? (i := 43) (by decide +kernel)), Or.inl rfl⟩
theorem wd_445 : kG (Cond.methodLink RX8 27 yX8_total) := ⟨tk_2 _ (List.mem_of_getElem? (i := 90) (by decide +kernel)), Or.inl rfl⟩
theorem wd_446 : kG (Cond.static yX8_total) := ⟨tk_2 _ (List.mem_of_getElem? (i := 91) (by decide +kernel)), Or.inl rfl⟩
theorem wd_447 : kG (Cond.code yX8_total cX8_total 2 (some .int)) := ⟨tk_2 _ (List.mem_of_getElem? (i := 92) (by decide +kernel)), Or.inl rfl⟩
theorem wd_448 : kG (Cond.methodLink RX8 22 yJ6_bitCount_0f7a4) := ⟨tk_2 _ (List.mem_of_getElem? (i := 93) (by decide +kernel)), Or.inl rfl⟩
theorem gp_wsX11_kinds_r1 : GoodIn lw_tbl wsX11_kinds_r1 := k_gc wd_35 (k_gc wd_144 (k_gc wd_145 (k_gc wd_146 (k_gc wd_112 (k_gc wd_147 (k_gc wd_148 (k_gc wd_436 (k_gc wd_437 (k_gc wd_438 (k_gc wd_439 (k_gc wd_440 (k_gc wd_388 (k_gc wd_441 (k_gc wd_442 (k_gc wd_443 (k_gc wd_444 (k_gc wd_445 (k_gc wd_446 (k_gc wd_447 (k_gc wd_448 (k_gc wd_394 (k_gc wd_395 (k_gc wd_396 k_gn)))))))))))))))))))))))
theorem wd_449 : kG (Cond.methodLink RX11 209 yX8_isLeastAlike) := ⟨tk_3 _ (List.mem_of_getElem? (i := 44) (by decide +kernel)), Or.inl rfl⟩
theorem wd_450 : kG (Cond.static yX8_isLeastAlike) := ⟨tk_3 _ (List.mem_of_getElem? (i := 45) (by decide +kernel)), Or.inl rfl⟩
theorem wd_451 : kG (Cond.code yX8_isLeastAlike cX8_isLeastAlike 6 (some .boolean)) := ⟨tk_3 _ (List.mem_of_getElem? (i := 46) (by decide +kernel)), Or.inl rfl⟩
theorem wd_452 : kG (Cond.methodLink RX8 71 yX8_inWay) := ⟨tk_3 _ (List.mem_of_getElem? (i := 47) (by decide +kernel)), Or.inl rfl⟩
theorem wd_453 : kG (Cond.static yX8_inWay) := ⟨tk_3 _ (List.mem_of_getElem? (i := 48) (by decide +kernel)), Or.inl rfl⟩
theorem wd_454 : kG (Cond.code yX8_inWay cX8_inWay 4 (some .int)) := ⟨tk_3 _ (List.mem_of_getElem? (i := 49) (by decide +kernel)), Or.inl rfl⟩
theorem wd_455 : kG (Cond.methodLink RX8 19 yX8_twinned) := ⟨tk_3 _ (List.mem_of_getElem? (i := 50) (by decide +kernel)), Or.inl rfl⟩
theorem wd_456 : kG (Cond.static yX8_twinned) := ⟨tk_3 _ (List.mem_of_getElem? (i := 51) (by decide +kernel)), Or.inl rfl⟩
theorem wd_457 : kG (Cond.code yX8_twinned cX8_twinned 2 (some .int)) := ⟨tk_3 _ (List.mem_of_getElem? (i := 52) (by decide +kernel)), Or.inl rfl⟩
theorem wd_458 : kG (Cond.methodLink RX8 15 yX8_all) := ⟨tk_3 _ (List.mem_of_getElem? (i := 53) (by decide +kernel)), Or.inl rfl⟩
theorem wd_459 : kG (Cond.methodLink RX8 62 yX8_fromBelow) := ⟨tk_3 _ (List.mem_of_getElem? (i := 54) (by decide +kernel)), Or.inl rfl⟩
theorem wd_460 : kG (Cond.static yX8_fromBelow) := ⟨tk_3 _ (List.mem_of_getElem? (i := 55) (by decide +kernel)), Or.inl rfl⟩
theorem wd_461 : kG (Cond.code yX8_fromBelow cX8_fromBelow 4 (some .int)) := ⟨tk_3 _ (List.mem_of_getElem? (i := 56) (by decide +kernel)), Or.inl rfl⟩
theorem wd_462 : kG (Cond.methodLink RX8 68 yX8_allows) := ⟨tk_3 _ (List.mem_of_getElem? (i := 57) (by decide +kernel)), Or.inl rfl⟩
theorem wd_463 : kG (Cond.static yX8_allows) := ⟨tk_3 _ (List.mem_of_getElem? (i := 58) (by decide +kernel)), Or.inl rfl⟩
theorem wd_464 : kG (Cond.code yX8_allows cX8_allows 2 (some .boolean)) := ⟨tk_3 _ (List.mem_of_getElem? (i := 59) (by decide +kernel)), Or.inl rfl⟩
theorem wd_465 : kG (Cond.methodLink RX8 9 yX8_turned) := ⟨tk_2 _ (List.mem_of_getElem? (i := 102) (by decide +kernel)), Or.inl rfl⟩
theorem gp_wsX11_kinds_r2 : GoodIn lw_tbl wsX11_kinds_r2 := k_gc wd_397 (k_gc wd_398 (k_gc wd_399 (k_gc wd_449 (k_gc wd_450 (k_gc wd_451 (k_gc wd_452 (k_gc wd_453 (k_gc wd_454 (k_gc wd_455 (k_gc wd_456 (k_gc wd_457 (k_gc wd_458 (k_gc wd_459 (k_gc wd_460 (k_gc wd_461 (k_gc wd_462 (k_gc wd_463 (k_gc wd_464 (k_gc wd_465 (k_gc wd_387 (k_gc wd_389 (k_gc wd_347 (k_gc wd_348 k_gn)))))))))))))))))))))))
theorem gp_wsX11_kinds_r3 : GoodIn lw_tbl wsX11_kinds_r3 := k_gc wd_349 (k_gc wd_350 k_gn)
theorem gp_wsX11_kinds : GoodIn lw_tbl wsX11_kinds := k_gc wd_435 (goodIn_app (goodIn_app (goodIn_app (gp_wsX11_kinds_r1) (goodIn_app (gp_wsX11_kinds_r2) (gp_wsX11_kinds_r3))) (k_G_wsX110)) (k_G_wsX40))
theorem wd_466 : kG (Cond.methodLink RL 131 yX11_kinds) := ⟨tk_3 _ (List.mem_of_getElem? (i := 31) (by decide +kernel)), Or.inl rfl⟩
theorem wd_467 : kG (Cond.instanceMethod yX11_kinds) := ⟨tk_3 _ (List.mem_of_getElem? (i := 32) (by decide +kernel)), Or.inl rfl⟩
theorem wd_468 : kG (Cond.selects RX11 yX11_kinds yX11_kinds) := ⟨tk_3 _ (List.mem_of_getElem? (i := 33) (by decide +kernel)), Or.inl rfl⟩
theorem wd_469 : kG (Cond.code yX11_groundBest cX11_groundBest 5 (some .int)) := ⟨tk_3 _ (List.mem_of_getElem? (i := 30) (by decide +kernel)), Or.inl rfl⟩
theorem gp_wsX11_groundBest_r1 : GoodIn lw_tbl wsX11_groundBest_r1 := k_gc wd_35 (k_gc wd_31 (k_gc wd_144 (k_gc wd_145 (k_gc wd_146 (k_gc wd_112 (k_gc wd_147 (k_gc wd_148 (k_gc wd_373 (k_gc wd_374 (k_gc wd_375 (k_gc wd_30 (k_gc wd_376 (k_gc wd_377 (k_gc wd_378 (k_gc wd_72 (k_gc wd_379 (k_gc wd_380 (k_gc wd_381 (k_gc wd_34 (k_gc wd_382 (k_gc wd_383 (k_gc wd_384 (k_gc wd_385 k_gn)))))))))))))))))))))))
theorem gp_wsX11_groundBest_r2 : GoodIn lw_tbl wsX11_groundBest_r2 := k_gc wd_386 (k_gc wd_387 (k_gc wd_388 (k_gc wd_389 (k_gc wd_390 (k_gc wd_391 (k_gc wd_392 (k_gc wd_393 (k_gc wd_394 (k_gc wd_395 (k_gc wd_396 (k_gc wd_397 (k_gc wd_398 (k_gc wd_399 (k_gc wd_300 (k_gc wd_301 (k_gc wd_431 (k_gc wd_405 (k_gc wd_406 (k_gc wd_407 (k_gc wd_408 (k_gc wd_409 (k_gc wd_410 (k_gc wd_411 k_gn)))))))))))))))))))))))
theorem gp_wsX11_groundBest_r3 : GoodIn lw_tbl wsX11_groundBest_r3 := k_gc wd_314 (k_gc wd_315 (k_gc wd_347 (k_gc wd_348 (k_gc wd_349 (k_gc wd_350 k_gn)))))
theorem gp_wsX11_groundBest : GoodIn lw_tbl wsX11_groundBest := k_gc wd_469 (goodIn_app (goodIn_app (goodIn_app (goodIn_app (gp_wsX11_groundBest_r1) (goodIn_app (gp_wsX11_groundBest_r2) (gp_wsX11_groundBest_r3))) (k_G_wsX110)) (k_G_wsX40)) (k_G_wsX50))
theorem wd_470 : kG (Cond.methodLink RL 135 yX11_groundBest) := ⟨tk_3 _ (List.mem_of_getElem? (i := 27) (by decide +kernel)), Or.inl rfl⟩
theorem wd_471 : kG (Cond.instanceMethod yX11_groundBest) := ⟨tk_3 _ (List.mem_of_getElem? (i := 28) (by decide +kernel)), Or.inl rfl⟩
theorem wd_472 : kG (Cond.selects RX11 yX11_groundBest yX11_groundBest) := ⟨tk_3 _ (List.mem_of_getElem? (i := 29) (by decide +kernel)), Or.inl rfl⟩
theorem gp_wsL_cell : GoodIn lw_tbl wsL_cell := k_gc wd_98 (k_gn)
theorem wd_473 : kG (Cond.code yX11_stack cX11_stack 5 (some .int)) := ⟨tk_2 _ (List.mem_of_getElem? (i := 63) (by decide +kernel)), Or.inl rfl⟩
theorem wd_474 : kG (Cond.methodLink RX11 121 yX11_lacks) := ⟨tk_2 _ (List.mem_of_getElem? (i := 64) (by decide +kernel)), Or.inl rfl⟩
theorem wd_475 : kG (Cond.instanceMethod yX11_lacks) := ⟨tk_2 _ (List.mem_of_getElem? (i := 66) (by decide +kernel)), Or.inl rfl⟩
theorem wd_476 : kG (Cond.selects RX11 yX11_lacks yX11_lacks) := ⟨List.mem_of_getElem? (i := 0) (by decide +kernel), Or.inl rfl⟩
theorem wd_477 : kG (Cond.code yX11_lacks cX11_lacks 2 (some .boolean)) := ⟨tk_2 _ (List.mem_of_getElem? (i := 67) (by decide +kernel)), Or.inl rfl⟩
theorem wd_478 : kG (Cond.methodLink RX11 124 yX9_row) := ⟨tk_2 _ (List.mem_of_getElem? (i := 72) (by decide +kernel)), Or.inl rfl⟩
theorem wd_479 : kG (Cond.methodLink RX11 127 yX9_steps) := ⟨tk_2 _ (List.mem_of_getElem? (i := 79) (by decide +kernel)), Or.inl rfl⟩
theorem gp_wsX11_stack_r1 : GoodIn lw_tbl wsX11_stack_r1 := k_gc wd_15 (k_gc wd_474 (k_gc wd_475 (k_gc wd_476 (k_gc wd_112 (k_gc wd_477 (k_gc wd_144 (k_gc wd_145 (k_gc wd_146 (k_gc wd_147 (k_gc wd_148 (k_gc wd_478 (k_gc wd_342 (k_gc wd_343 (k_gc wd_14 (k_gc wd_344 (k_gc wd_51 (k_gc wd_314 (k_gc wd_315 (k_gc wd_479 (k_gc wd_317 (k_gc wd_318 (k_gc wd_319 (k_gc wd_52 k_gn)))))))))))))))))))))))
theorem wd_480 : kG (Cond.methodLink RX11 130 yX8_repeatsAfter) := ⟨tk_2 _ (List.mem_of_getElem? (i := 87) (by decide +kernel)), Or.inl rfl⟩
theorem wd_481 : kG (Cond.static yX8_repeatsAfter) := ⟨tk_2 _ (List.mem_of_getElem? (i := 88) (by decide +kernel)), Or.inl rfl⟩
theorem wd_482 : kG (Cond.code yX8_repeatsAfter cX8_repeatsAfter 2 (some .int)) := ⟨tk_2 _ (List.mem_of_getElem? (i := 89) (by decide +kernel)), Or.inl rfl⟩
theorem wd_483 : kG (Cond.methodLink RX11 135 yX8_period) := ⟨tk_2 _ (List.mem_of_getElem? (i := 99) (by decide +kernel)), Or.inl rfl⟩
theorem wd_484 : kG (Cond.static yX8_period) := ⟨tk_2 _ (List.mem_of_getElem? (i := 100) (by decide +kernel)), Or.inl rfl⟩
theorem wd_485 : kG (Cond.code yX8_period cX8_period 4 (some .int)) := ⟨tk_2 _ (List.mem_of_getElem? (i := 101) (by decide +kernel)), Or.inl rfl⟩
theorem gp_wsX11_stack_r2 : GoodIn lw_tbl wsX11_stack_r2 := k_gc wd_347 (k_gc wd_348 (k_gc wd_349 (k_gc wd_350 (k_gc wd_480 (k_gc wd_481 (k_gc wd_388 (k_gc wd_482 (k_gc wd_445 (k_gc wd_446 (k_gc wd_447 (k_gc wd_448 (k_gc wd_394 (k_gc wd_395 (k_gc wd_396 (k_gc wd_397 (k_gc wd_398 (k_gc wd_399 (k_gc wd_483 (k_gc wd_484 (k_gc wd_485 (k_gc wd_465 (k_gc wd_387 (k_gc wd_389 k_gn)))))))))))))))))))))))
theorem wd_486 : kG (Cond.methodLink RX11 138 yX8_hexes) := ⟨tk_2 _ (List.mem_of_getElem? (i := 105) (by decide +kernel)), Or.inl rfl⟩
theorem wd_487 : kG (Cond.static yX8_hexes) := ⟨tk_2 _ (List.mem_of_getElem? (i := 106) (by decide +kernel)), Or.inl rfl⟩
theorem wd_488 : kG (Cond.code yX8_hexes cX8_hexes 2 (some .int)) := ⟨tk_2 _ (List.mem_of_getElem? (i := 107) (by decide +kernel)), Or.inl rfl⟩
theorem wd_489 : kG (Cond.methodLink RX11 141 yX8_runs) := ⟨tk_2 _ (List.mem_of_getElem? (i := 108) (by decide +kernel)), Or.inl rfl⟩
theorem wd_490 : kG (Cond.static yX8_runs) := ⟨tk_2 _ (List.mem_of_getElem? (i := 109) (by decide +kernel)), Or.inl rfl⟩
theorem wd_491 : kG (Cond.code yX8_runs cX8_runs 2 (some .int)) := ⟨tk_2 _ (List.mem_of_getElem? (i := 110) (by decide +kernel)), Or.inl rfl⟩
theorem wd_492 : kG (Cond.methodLink RX8 33 Lib.Math.max.name) := ⟨tk_2 _ (List.mem_of_getElem? (i := 112) (by decide +kernel)), Or.inl rfl⟩
theorem wd_493 : kG (Cond.static Lib.Math.max.name) := ⟨tk_2 _ (List.mem_of_getElem? (i := 113) (by decide +kernel)), Or.inl rfl⟩
theorem wd_494 : kG (Cond.code Lib.Math.max.name Lib.Math.max.code 2 (some .int)) := ⟨tk_2 _ (List.mem_of_getElem? (i := 114) (by decide +kernel)), Or.inl rfl⟩
theorem wd_495 : kG (Cond.methodLink RX8 30 yX8_hexes) := ⟨tk_2 _ (List.mem_of_getElem? (i := 111) (by decide +kernel)), Or.inl rfl⟩
theorem gp_wsX11_stack_r3 : GoodIn lw_tbl wsX11_stack_r3 := k_gc wd_486 (k_gc wd_487 (k_gc wd_488 (k_gc wd_489 (k_gc wd_490 (k_gc wd_491 (k_gc wd_492 (k_gc wd_493 (k_gc wd_410 (k_gc wd_494 (k_gc wd_495 k_gn))))))))))
theorem gp_wsX11_stack : GoodIn lw_tbl wsX11_stack := k_gc wd_473 (goodIn_app (goodIn_app (goodIn_app (gp_wsX11_stack_r1) (goodIn_app (gp_wsX11_stack_r2) (gp_wsX11_stack_r3))) (k_G_wsX110)) (k_G_wsX90))
theorem wd_496 : kG (Cond.methodLink RL 138 yX11_stack) := ⟨tk_2 _ (List.mem_of_getElem? (i := 60) (by decide +kernel)), Or.inl rfl⟩
theorem wd_497 : kG (Cond.instanceMethod yX11_stack) := ⟨tk_2 _ (List.mem_of_getElem? (i := 61) (by decide +kernel)), Or.inl rfl⟩
theorem wd_498 : kG (Cond.selects RX11 yX11_stack yX11_stack) := ⟨tk_2 _ (List.mem_of_getElem? (i := 62) (by decide +kernel)), Or.inl rfl⟩
theorem wd_499 : kG (Cond.code yX11_sum cX11_sum 2 (some .int)) := ⟨tk_2 _ (List.mem_of_getElem? (i := 118) (by decide +kernel)), Or.inl rfl⟩
theorem gp_wsX11_sum_r1 : GoodIn lw_tbl wsX11_sum_r1 := k_gc wd_15 (k_gc wd_474 (k_gc wd_475 (k_gc wd_476 (k_gc wd_112 (k_gc wd_477 (k_gc wd_144 (k_gc wd_145 (k_gc wd_146 (k_gc wd_147 (k_gc wd_148 (k_gc wd_478 (k_gc wd_342 (k_gc wd_343 (k_gc wd_14 (k_gc wd_344 (k_gc wd_51 (k_gc wd_314 (k_gc wd_315 (k_gc wd_479 (k_gc wd_317 (k_gc wd_318 (k_gc wd_319 (k_gc wd_52 k_gn)))))))))))))))))))))))
theorem wd_500 : kG (Cond.methodLink RX11 144 yX8_total) := ⟨tk_2 _ (List.mem_of_getElem? (i := 119) (by decide +kernel)), Or.inl rfl⟩
theorem gp_wsX11_sum_r2 : GoodIn lw_tbl wsX11_sum_r2 := k_gc wd_500 (k_gc wd_446 (k_gc wd_388 (k_gc wd_447 (k_gc wd_448 (k_gc wd_394 (k_gc wd_395 (k_gc wd_396 (k_gc wd_397 (k_gc wd_398 (k_gc wd_399 (k_gc wd_347 (k_gc wd_348 (k_gc wd_349 (k_gc wd_350 k_gn))))))))))))))
theorem gp_wsX11_sum : GoodIn lw_tbl wsX11_sum := k_gc wd_499 (goodIn_app (goodIn_app (goodIn_app (gp_wsX11_sum_r1) (gp_wsX11_sum_r2)) (k_G_wsX110)) (k_G_wsX90))
theorem wd_501 : kG (Cond.methodLink RL 141 yX11_sum) := ⟨tk_2 _ (List.mem_of_getElem? (i := 115) (by decide +kernel)), Or.inl rfl⟩
theorem wd_502 : kG (Cond.instanceMethod yX11_sum) := ⟨tk_2 _ (List.mem_of_getElem? (i := 116) (by decide +kernel)), Or.inl rfl⟩
theorem wd_503 : kG (Cond.selects RX11 yX11_sum yX11_sum) := ⟨tk_2 _ (List.mem_of_getElem? (i := 117) (by decide +kernel)), Or.inl rfl⟩
theorem wd_504 : kG (Cond.code yX11_run cX11_run 5 (some .int)) := ⟨tk_2 _ (List.mem_of_getElem? (i := 146) (by decide +kernel)), Or.inl rfl⟩
theorem gp_wsX11_run_r1 : GoodIn lw_tbl wsX11_run_r1 := k_gc wd_15 (k_gc wd_474 (k_gc wd_475 (k_gc wd_476 (k_gc wd_112 (k_gc wd_477 (k_gc wd_144 (k_gc wd_145 (k_gc wd_146 (k_gc wd_147 (k_gc wd_148 (k_gc wd_478 (k_gc wd_342 (k_gc wd_343 (k_gc wd_14 (k_gc wd_344 (k_gc wd_51 (k_gc wd_314 (k_gc wd_315 (k_gc wd_479 (k_gc wd_317 (k_gc wd_318 (k_gc wd_319 (k_gc wd_52 k_gn)))))))))))))))))))))))
theorem wd_505 : kG (Cond.methodLink RX11 158 yX8_runLength) := ⟨tk_2 _ (List.mem_of_getElem? (i := 147) (by decide +kernel)), Or.inl rfl⟩
theorem wd_506 : kG (Cond.static yX8_runLength) := ⟨tk_2 _ (List.mem_of_getElem? (i := 148) (by decide +kernel)), Or.inl rfl⟩
theorem wd_507 : kG (Cond.code yX8_runLength cX8_runLength 6 (some .int)) := ⟨tk_2 _ (List.mem_of_getElem? (i := 149) (by decide +kernel)), Or.inl rfl⟩
theorem gp_wsX11_run_r2 : GoodIn lw_tbl wsX11_run_r2 := k_gc wd_489 (k_gc wd_490 (k_gc wd_388 (k_gc wd_491 (k_gc wd_492 (k_gc wd_493 (k_gc wd_410 (k_gc wd_494 (k_gc wd_495 (k_gc wd_487 (k_gc wd_488 (k_gc wd_465 (k_gc wd_387 (k_gc wd_389 (k_gc wd_448 (k_gc wd_394 (k_gc wd_395 (k_gc wd_396 (k_gc wd_397 (k_gc wd_398 (k_gc wd_399 (k_gc wd_505 (k_gc wd_506 (k_gc wd_507 k_gn)))))))))))))))))))))))
theorem wd_508 : kG (Cond.methodLink RX8 42 yX8_beginsRun) := ⟨tk_2 _ (List.mem_of_getElem? (i := 150) (by decide +kernel)), Or.inl rfl⟩
theorem wd_509 : kG (Cond.static yX8_beginsRun) := ⟨tk_2 _ (List.mem_of_getElem? (i := 141) (by decide +kernel)), Or.inl rfl⟩
theorem wd_510 : kG (Cond.code yX8_beginsRun cX8_beginsRun 2 (some .boolean)) := ⟨tk_2 _ (List.mem_of_getElem? (i := 142) (by decide +kernel)), Or.inl rfl⟩
theorem wd_511 : kG (Cond.methodLink RX8 38 yX8_startsUp) := ⟨tk_2 _ (List.mem_of_getElem? (i := 127) (by decide +kernel)), Or.inl rfl⟩
theorem wd_512 : kG (Cond.static yX8_startsUp) := ⟨tk_2 _ (List.mem_of_getElem? (i := 128) (by decide +kernel)), Or.inl rfl⟩
theorem wd_513 : kG (Cond.code yX8_startsUp cX8_startsUp 2 (some .boolean)) := ⟨tk_2 _ (List.mem_of_getElem? (i := 129) (by decide +kernel)), Or.inl rfl⟩
theorem wd_514 : kG (Cond.methodLink RX8 45 yX8_stepsLikeFirst) := ⟨tk_2 _ (List.mem_of_getElem? (i := 151) (by decide +kernel)), Or.inl rfl⟩
theorem wd_515 : kG (Cond.static yX8_stepsLikeFirst) := ⟨tk_2 _ (List.mem_of_getElem? (i := 152) (by decide +kernel)), Or.inl rfl⟩
theorem wd_516 : kG (Cond.code yX8_stepsLikeFirst cX8_stepsLikeFirst 4 (some .int)) := ⟨tk_2 _ (List.mem_of_getElem? (i := 153) (by decide +kernel)), Or.inl rfl⟩
theorem gp_wsX11_run_r3 : GoodIn lw_tbl wsX11_run_r3 := k_gc wd_508 (k_gc wd_509 (k_gc wd_510 (k_gc wd_511 (k_gc wd_512 (k_gc wd_513 (k_gc wd_514 (k_gc wd_515 (k_gc wd_516 (k_gc wd_347 (k_gc wd_348 (k_gc wd_349 (k_gc wd_350 k_gn))))))))))))
theorem gp_wsX11_run : GoodIn lw_tbl wsX11_run := k_gc wd_504 (goodIn_app (goodIn_app (goodIn_app (gp_wsX11_run_r1) (goodIn_app (gp_wsX11_run_r2) (gp_wsX11_run_r3))) (k_G_wsX110)) (k_G_wsX90))
theorem wd_517 : kG (Cond.methodLink RL 144 yX11_run) := ⟨tk_2 _ (List.mem_of_getElem? (i := 143) (by decide +kernel)), Or.inl rfl⟩
theorem wd_518 : kG (Cond.instanceMethod yX11_run) := ⟨tk_2 _ (List.mem_of_getElem? (i := 144) (by decide +kernel)), Or.inl rfl⟩
theorem wd_519 : kG (Cond.selects RX11 yX11_run yX11_run) := ⟨tk_2 _ (List.mem_of_getElem? (i := 145) (by decide +kernel)), Or.inl rfl⟩
theorem wd_520 : kG (Cond.code yX11_layer cX11_layer 3 (some .int)) := ⟨tk_2 _ (List.mem_of_getElem? (i := 123) (by decide +kernel)), Or.inl rfl⟩
theorem gp_wsX11_layer_r1 : GoodIn lw_tbl wsX11_layer_r1 := k_gc wd_15 (k_gc wd_474 (k_gc wd_475 (k_gc wd_476 (k_gc wd_112 (k_gc wd_477 (k_gc wd_144 (k_gc wd_145 (k_gc wd_146 (k_gc wd_147 (k_gc wd_148 (k_gc wd_478 (k_gc wd_342 (k_gc wd_343 (k_gc wd_14 (k_gc wd_344 (k_gc wd_51 (k_gc wd_314 (k_gc wd_315 (k_gc wd_479 (k_gc wd_317 (k_gc wd_318 (k_gc wd_319 (k_gc wd_52 k_gn)))))))))))))))))))))))
