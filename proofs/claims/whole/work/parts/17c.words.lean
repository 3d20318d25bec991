/-! THE LAW'S WORDS, the second half -/
theorem wd_845 : kG (Cond.code yX11_groundMany cX11_groundMany 2 (some .int)) := ⟨tk_4 _ (List.mem_of_getElem? (i := 10) (by decide +kernel)), Or.inl rfl⟩
theorem gp_wsX11_groundMany_r1 : GoodIn lw_tbl wsX11_groundMany_r1 := k_gc wd_31 (k_gc wd_35 (k_gc wd_793 (k_gc wd_794 (k_gc wd_795 (k_gc wd_115 (k_gc wd_796 (k_gc wd_797 (k_gc wd_798 (k_gc wd_799 (k_gc wd_800 (k_gc wd_126 (k_gc wd_127 (k_gc wd_128 (k_gc wd_129 (k_gc wd_130 (k_gc wd_801 (k_gc wd_802 (k_gc wd_803 (k_gc wd_30 (k_gc wd_804 (k_gc wd_805 (k_gc wd_806 (k_gc wd_72 k_gn)))))))))))))))))))))))
theorem gp_wsX11_groundMany_r2 : GoodIn lw_tbl wsX11_groundMany_r2 := k_gc wd_807 (k_gc wd_696 (k_gc wd_697 (k_gc wd_34 (k_gc wd_698 (k_gc wd_699 (k_gc wd_700 (k_gc wd_701 (k_gc wd_702 (k_gc wd_525 (k_gc wd_509 (k_gc wd_526 (k_gc wd_703 (k_gc wd_704 (k_gc wd_705 (k_gc wd_706 (k_gc wd_515 (k_gc wd_516 (k_gc wd_517 (k_gc wd_518 (k_gc wd_519 (k_gc wd_520 (k_gc wd_282 (k_gc wd_283 k_gn)))))))))))))))))))))))
theorem wd_846 : kG (Cond.methodLink RX11 197 yX5_lowestMany) := ⟨tk_4 _ (List.mem_of_getElem? (i := 11) (by decide +kernel)), Or.inl rfl⟩
theorem wd_847 : kG (Cond.instanceMethod yX5_lowestMany) := ⟨tk_4 _ (List.mem_of_getElem? (i := 12) (by decide +kernel)), Or.inl rfl⟩
theorem wd_848 : kG (Cond.selects RX5 yX5_lowestMany yX5_lowestMany) := ⟨tk_4 _ (List.mem_of_getElem? (i := 13) (by decide +kernel)), Or.inl rfl⟩
theorem wd_849 : kG (Cond.code yX5_lowestMany cX5_lowestMany 4 (some .int)) := ⟨tk_4 _ (List.mem_of_getElem? (i := 14) (by decide +kernel)), Or.inl rfl⟩
theorem wd_850 : kG (Cond.methodLink RX5 48 yX5_lowest) := ⟨tk_4 _ (List.mem_of_getElem? (i := 15) (by decide +kernel)), Or.inl rfl⟩
theorem gp_wsX11_groundMany_r3 : GoodIn lw_tbl wsX11_groundMany_r3 := k_gc wd_846 (k_gc wd_847 (k_gc wd_848 (k_gc wd_849 (k_gc wd_850 (k_gc wd_809 (k_gc wd_810 (k_gc wd_811 (k_gc wd_812 (k_gc wd_813 (k_gc wd_535 (k_gc wd_814 (k_gc wd_296 (k_gc wd_297 (k_gc wd_329 (k_gc wd_330 (k_gc wd_331 (k_gc wd_332 k_gn)))))))))))))))))
theorem gp_wsX11_groundMany : GoodIn lw_tbl wsX11_groundMany := k_gc wd_845 (goodIn_app (goodIn_app (goodIn_app (goodIn_app (gp_wsX11_groundMany_r1) (goodIn_app (gp_wsX11_groundMany_r2) (gp_wsX11_groundMany_r3))) (k_G_wsX110)) (k_G_wsX40)) (k_G_wsX50))
theorem wd_851 : kG (Cond.methodLink RL 99 yX11_groundMany) := ⟨tk_4 _ (List.mem_of_getElem? (i := 7) (by decide +kernel)), Or.inl rfl⟩
theorem wd_852 : kG (Cond.instanceMethod yX11_groundMany) := ⟨tk_4 _ (List.mem_of_getElem? (i := 8) (by decide +kernel)), Or.inl rfl⟩
theorem wd_853 : kG (Cond.selects RX11 yX11_groundMany yX11_groundMany) := ⟨tk_4 _ (List.mem_of_getElem? (i := 9) (by decide +kernel)), Or.inl rfl⟩
theorem wd_854 : kG (Cond.code yX13_groundMany cX13_groundMany 3 (some .int)) := ⟨tk_7 _ (List.mem_of_getElem? (i := 178) (by decide +kernel)), Or.inl rfl⟩
theorem gp_wsX13_groundMany_r1 : GoodIn lw_tbl wsX13_groundMany_r1 := k_gc wd_117 (k_gc wd_828 (k_gc wd_819 (k_gc wd_820 (k_gc wd_821 (k_gc wd_122 (k_gc wd_822 (k_gc wd_347 (k_gc wd_435 (k_gc wd_436 (k_gc wd_437 (k_gc wd_350 (k_gc wd_351 (k_gc wd_352 (k_gc wd_353 (k_gc wd_345 (k_gc wd_90 (k_gc wd_823 (k_gc wd_824 (k_gc wd_825 (k_gc wd_826 (k_gc wd_827 (k_gc wd_829 (k_gc wd_569 k_gn)))))))))))))))))))))))
theorem gp_wsX13_groundMany_r2 : GoodIn lw_tbl wsX13_groundMany_r2 := k_gc wd_570 (k_gc wd_571 (k_gc wd_712 (k_gc wd_713 (k_gc wd_714 (k_gc wd_715 (k_gc wd_578 (k_gc wd_579 (k_gc wd_580 (k_gc wd_477 (k_gc wd_478 (k_gc wd_479 (k_gc wd_480 k_gn))))))))))))
theorem gp_wsX13_groundMany : GoodIn lw_tbl wsX13_groundMany := k_gc wd_854 (goodIn_app (goodIn_app (goodIn_app (gp_wsX13_groundMany_r1) (gp_wsX13_groundMany_r2)) (k_G_wsX130)) (k_G_wsX120))
theorem wd_855 : kG (Cond.methodLink RL 102 yX13_groundMany) := ⟨tk_7 _ (List.mem_of_getElem? (i := 175) (by decide +kernel)), Or.inl rfl⟩
theorem wd_856 : kG (Cond.instanceMethod yX13_groundMany) := ⟨tk_7 _ (List.mem_of_getElem? (i := 176) (by decide +kernel)), Or.inl rfl⟩
theorem wd_857 : kG (Cond.selects RX13 yX13_groundMany yX13_groundMany) := ⟨tk_7 _ (List.mem_of_getElem? (i := 177) (by decide +kernel)), Or.inl rfl⟩
theorem wd_858 : kG (Cond.code yX11_groundBest cX11_groundBest 5 (some .int)) := ⟨tk_4 _ (List.mem_of_getElem? (i := 19) (by decide +kernel)), Or.inl rfl⟩
theorem gp_wsX11_groundBest_r1 : GoodIn lw_tbl wsX11_groundBest_r1 := k_gc wd_35 (k_gc wd_31 (k_gc wd_126 (k_gc wd_127 (k_gc wd_128 (k_gc wd_115 (k_gc wd_129 (k_gc wd_130 (k_gc wd_801 (k_gc wd_802 (k_gc wd_803 (k_gc wd_30 (k_gc wd_804 (k_gc wd_805 (k_gc wd_806 (k_gc wd_72 (k_gc wd_807 (k_gc wd_696 (k_gc wd_697 (k_gc wd_34 (k_gc wd_698 (k_gc wd_699 (k_gc wd_700 (k_gc wd_701 k_gn)))))))))))))))))))))))
theorem gp_wsX11_groundBest_r2 : GoodIn lw_tbl wsX11_groundBest_r2 := k_gc wd_702 (k_gc wd_525 (k_gc wd_509 (k_gc wd_526 (k_gc wd_703 (k_gc wd_704 (k_gc wd_705 (k_gc wd_706 (k_gc wd_515 (k_gc wd_516 (k_gc wd_517 (k_gc wd_518 (k_gc wd_519 (k_gc wd_520 (k_gc wd_282 (k_gc wd_283 (k_gc wd_808 (k_gc wd_809 (k_gc wd_810 (k_gc wd_811 (k_gc wd_812 (k_gc wd_813 (k_gc wd_535 (k_gc wd_814 k_gn)))))))))))))))))))))))
theorem gp_wsX11_groundBest_r3 : GoodIn lw_tbl wsX11_groundBest_r3 := k_gc wd_296 (k_gc wd_297 (k_gc wd_329 (k_gc wd_330 (k_gc wd_331 (k_gc wd_332 k_gn)))))
theorem gp_wsX11_groundBest : GoodIn lw_tbl wsX11_groundBest := k_gc wd_858 (goodIn_app (goodIn_app (goodIn_app (goodIn_app (gp_wsX11_groundBest_r1) (goodIn_app (gp_wsX11_groundBest_r2) (gp_wsX11_groundBest_r3))) (k_G_wsX110)) (k_G_wsX40)) (k_G_wsX50))
theorem wd_859 : kG (Cond.methodLink RL 103 yX11_groundBest) := ⟨tk_4 _ (List.mem_of_getElem? (i := 16) (by decide +kernel)), Or.inl rfl⟩
theorem wd_860 : kG (Cond.instanceMethod yX11_groundBest) := ⟨tk_4 _ (List.mem_of_getElem? (i := 17) (by decide +kernel)), Or.inl rfl⟩
theorem wd_861 : kG (Cond.selects RX11 yX11_groundBest yX11_groundBest) := ⟨tk_4 _ (List.mem_of_getElem? (i := 18) (by decide +kernel)), Or.inl rfl⟩
theorem wd_862 : kG (Cond.code yX13_groundBest cX13_groundBest 5 (some .int)) := ⟨tk_7 _ (List.mem_of_getElem? (i := 182) (by decide +kernel)), Or.inl rfl⟩
theorem gp_wsX13_groundBest_r1 : GoodIn lw_tbl wsX13_groundBest_r1 := k_gc wd_117 (k_gc wd_347 (k_gc wd_350 (k_gc wd_351 (k_gc wd_352 (k_gc wd_122 (k_gc wd_353 (k_gc wd_345 (k_gc wd_90 (k_gc wd_823 (k_gc wd_824 (k_gc wd_825 (k_gc wd_826 (k_gc wd_827 (k_gc wd_828 (k_gc wd_829 (k_gc wd_569 (k_gc wd_570 (k_gc wd_571 (k_gc wd_712 (k_gc wd_713 (k_gc wd_714 (k_gc wd_715 (k_gc wd_578 k_gn)))))))))))))))))))))))
theorem gp_wsX13_groundBest_r2 : GoodIn lw_tbl wsX13_groundBest_r2 := k_gc wd_579 (k_gc wd_580 (k_gc wd_477 (k_gc wd_478 (k_gc wd_479 (k_gc wd_480 k_gn)))))
theorem gp_wsX13_groundBest : GoodIn lw_tbl wsX13_groundBest := k_gc wd_862 (goodIn_app (goodIn_app (goodIn_app (gp_wsX13_groundBest_r1) (gp_wsX13_groundBest_r2)) (k_G_wsX130)) (k_G_wsX120))
theorem wd_863 : kG (Cond.methodLink RL 106 yX13_groundBest) := ⟨tk_7 _ (List.mem_of_getElem? (i := 179) (by decide +kernel)), Or.inl rfl⟩
theorem wd_864 : kG (Cond.instanceMethod yX13_groundBest) := ⟨tk_7 _ (List.mem_of_getElem? (i := 180) (by decide +kernel)), Or.inl rfl⟩
theorem wd_865 : kG (Cond.selects RX13 yX13_groundBest yX13_groundBest) := ⟨tk_7 _ (List.mem_of_getElem? (i := 181) (by decide +kernel)), Or.inl rfl⟩
theorem wd_866 : kG (Cond.code yX11_kinds cX11_kinds 7 (some .int)) := ⟨tk_4 _ (List.mem_of_getElem? (i := 23) (by decide +kernel)), Or.inl rfl⟩
theorem wd_867 : kG (Cond.methodLink RX11 200 yX11_isNoHow) := ⟨tk_4 _ (List.mem_of_getElem? (i := 24) (by decide +kernel)), Or.inl rfl⟩
theorem wd_868 : kG (Cond.static yX11_isNoHow) := ⟨tk_4 _ (List.mem_of_getElem? (i := 25) (by decide +kernel)), Or.inl rfl⟩
theorem wd_869 : kG (Cond.code yX11_isNoHow cX11_isNoHow 1 (some .boolean)) := ⟨tk_4 _ (List.mem_of_getElem? (i := 26) (by decide +kernel)), Or.inl rfl⟩
theorem wd_870 : kG (Cond.methodLink RX11 203 yX8_all) := ⟨tk_4 _ (List.mem_of_getElem? (i := 27) (by decide +kernel)), Or.inl rfl⟩
theorem wd_871 : kG (Cond.static yX8_all) := ⟨tk_4 _ (List.mem_of_getElem? (i := 28) (by decide +kernel)), Or.inl rfl⟩
theorem wd_872 : kG (Cond.code yX8_all cX8_all 1 (some .int)) := ⟨tk_4 _ (List.mem_of_getElem? (i := 29) (by decide +kernel)), Or.inl rfl⟩
theorem wd_873 : kG (Cond.methodLink RX11 206 yX8_closes) := ⟨tk_4 _ (List.mem_of_getElem? (i := 30) (by decide +kernel)), Or.inl rfl⟩
theorem wd_874 : kG (Cond.static yX8_closes) := ⟨tk_4 _ (List.mem_of_getElem? (i := 31) (by decide +kernel)), Or.inl rfl⟩
theorem wd_875 : kG (Cond.code yX8_closes cX8_closes 2 (some .boolean)) := ⟨tk_4 _ (List.mem_of_getElem? (i := 32) (by decide +kernel)), Or.inl rfl⟩
theorem gp_wsX11_kinds_r1 : GoodIn lw_tbl wsX11_kinds_r1 := k_gc wd_35 (k_gc wd_126 (k_gc wd_127 (k_gc wd_128 (k_gc wd_115 (k_gc wd_129 (k_gc wd_130 (k_gc wd_867 (k_gc wd_868 (k_gc wd_869 (k_gc wd_870 (k_gc wd_871 (k_gc wd_509 (k_gc wd_872 (k_gc wd_873 (k_gc wd_874 (k_gc wd_875 (k_gc wd_511 (k_gc wd_512 (k_gc wd_513 (k_gc wd_514 (k_gc wd_515 (k_gc wd_516 (k_gc wd_517 k_gn)))))))))))))))))))))))
theorem wd_876 : kG (Cond.methodLink RX11 209 yX8_isLeastAlike) := ⟨tk_4 _ (List.mem_of_getElem? (i := 33) (by decide +kernel)), Or.inl rfl⟩
theorem wd_877 : kG (Cond.static yX8_isLeastAlike) := ⟨tk_4 _ (List.mem_of_getElem? (i := 34) (by decide +kernel)), Or.inl rfl⟩
theorem wd_878 : kG (Cond.code yX8_isLeastAlike cX8_isLeastAlike 6 (some .boolean)) := ⟨tk_4 _ (List.mem_of_getElem? (i := 35) (by decide +kernel)), Or.inl rfl⟩
theorem wd_879 : kG (Cond.methodLink RX8 71 yX8_inWay) := ⟨tk_4 _ (List.mem_of_getElem? (i := 36) (by decide +kernel)), Or.inl rfl⟩
theorem wd_880 : kG (Cond.static yX8_inWay) := ⟨tk_4 _ (List.mem_of_getElem? (i := 37) (by decide +kernel)), Or.inl rfl⟩
theorem wd_881 : kG (Cond.code yX8_inWay cX8_inWay 4 (some .int)) := ⟨tk_4 _ (List.mem_of_getElem? (i := 38) (by decide +kernel)), Or.inl rfl⟩
theorem wd_882 : kG (Cond.methodLink RX8 19 yX8_twinned) := ⟨tk_4 _ (List.mem_of_getElem? (i := 39) (by decide +kernel)), Or.inl rfl⟩
theorem wd_883 : kG (Cond.static yX8_twinned) := ⟨tk_4 _ (List.mem_of_getElem? (i := 40) (by decide +kernel)), Or.inl rfl⟩
theorem wd_884 : kG (Cond.code yX8_twinned cX8_twinned 2 (some .int)) := ⟨tk_4 _ (List.mem_of_getElem? (i := 41) (by decide +kernel)), Or.inl rfl⟩
theorem wd_885 : kG (Cond.methodLink RX8 15 yX8_all) := ⟨tk_4 _ (List.mem_of_getElem? (i := 42) (by decide +kernel)), Or.inl rfl⟩
theorem wd_886 : kG (Cond.methodLink RX8 62 yX8_fromBelow) := ⟨tk_4 _ (List.mem_of_getElem? (i := 43) (by decide +kernel)), Or.inl rfl⟩
theorem wd_887 : kG (Cond.static yX8_fromBelow) := ⟨tk_4 _ (List.mem_of_getElem? (i := 44) (by decide +kernel)), Or.inl rfl⟩
theorem wd_888 : kG (Cond.code yX8_fromBelow cX8_fromBelow 4 (some .int)) := ⟨tk_4 _ (List.mem_of_getElem? (i := 45) (by decide +kernel)), Or.inl rfl⟩
theorem wd_889 : kG (Cond.methodLink RX8 68 yX8_allows) := ⟨tk_4 _ (List.mem_of_getElem? (i := 46) (by decide +kernel)), Or.inl rfl⟩
theorem wd_890 : kG (Cond.static yX8_allows) := ⟨tk_4 _ (List.mem_of_getElem? (i := 47) (by decide +kernel)), Or.inl rfl⟩
theorem wd_891 : kG (Cond.code yX8_allows cX8_allows 2 (some .boolean)) := ⟨tk_4 _ (List.mem_of_getElem? (i := 48) (by decide +kernel)), Or.inl rfl⟩
theorem gp_wsX11_kinds_r2 : GoodIn lw_tbl wsX11_kinds_r2 := k_gc wd_518 (k_gc wd_519 (k_gc wd_520 (k_gc wd_876 (k_gc wd_877 (k_gc wd_878 (k_gc wd_879 (k_gc wd_880 (k_gc wd_881 (k_gc wd_882 (k_gc wd_883 (k_gc wd_884 (k_gc wd_885 (k_gc wd_886 (k_gc wd_887 (k_gc wd_888 (k_gc wd_889 (k_gc wd_890 (k_gc wd_891 (k_gc wd_524 (k_gc wd_525 (k_gc wd_526 (k_gc wd_329 (k_gc wd_330 k_gn)))))))))))))))))))))))
theorem gp_wsX11_kinds_r3 : GoodIn lw_tbl wsX11_kinds_r3 := k_gc wd_331 (k_gc wd_332 k_gn)
theorem gp_wsX11_kinds : GoodIn lw_tbl wsX11_kinds := k_gc wd_866 (goodIn_app (goodIn_app (goodIn_app (gp_wsX11_kinds_r1) (goodIn_app (gp_wsX11_kinds_r2) (gp_wsX11_kinds_r3))) (k_G_wsX110)) (k_G_wsX40))
theorem wd_892 : kG (Cond.methodLink RL 107 yX11_kinds) := ⟨tk_4 _ (List.mem_of_getElem? (i := 20) (by decide +kernel)), Or.inl rfl⟩
theorem wd_893 : kG (Cond.instanceMethod yX11_kinds) := ⟨tk_4 _ (List.mem_of_getElem? (i := 21) (by decide +kernel)), Or.inl rfl⟩
theorem wd_894 : kG (Cond.selects RX11 yX11_kinds yX11_kinds) := ⟨tk_4 _ (List.mem_of_getElem? (i := 22) (by decide +kernel)), Or.inl rfl⟩
theorem wd_895 : kG (Cond.code yX13_kinds cX13_kinds 6 (some .int)) := ⟨tk_7 _ (List.mem_of_getElem? (i := 186) (by decide +kernel)), Or.inl rfl⟩
theorem gp_wsX13_kinds_r1 : GoodIn lw_tbl wsX13_kinds_r1 := k_gc wd_117 (k_gc wd_347 (k_gc wd_350 (k_gc wd_351 (k_gc wd_352 (k_gc wd_122 (k_gc wd_353 (k_gc wd_345 (k_gc wd_90 (k_gc wd_435 (k_gc wd_436 (k_gc wd_437 (k_gc wd_569 (k_gc wd_570 (k_gc wd_571 (k_gc wd_554 (k_gc wd_555 (k_gc wd_556 (k_gc wd_557 (k_gc wd_558 (k_gc wd_559 (k_gc wd_560 (k_gc wd_561 (k_gc wd_562 k_gn)))))))))))))))))))))))
theorem wd_896 : kG (Cond.methodLink RX13 366 yX13_leastAlike) := ⟨tk_7 _ (List.mem_of_getElem? (i := 187) (by decide +kernel)), Or.inl rfl⟩
theorem wd_897 : kG (Cond.static yX13_leastAlike) := ⟨tk_7 _ (List.mem_of_getElem? (i := 188) (by decide +kernel)), Or.inl rfl⟩
theorem wd_898 : kG (Cond.code yX13_leastAlike cX13_leastAlike 7 (some .int)) := ⟨tk_7 _ (List.mem_of_getElem? (i := 189) (by decide +kernel)), Or.inl rfl⟩
theorem wd_899 : kG (Cond.methodLink RX13 360 yX13_isLook) := ⟨tk_7 _ (List.mem_of_getElem? (i := 190) (by decide +kernel)), Or.inl rfl⟩
theorem wd_900 : kG (Cond.static yX13_isLook) := ⟨tk_7 _ (List.mem_of_getElem? (i := 191) (by decide +kernel)), Or.inl rfl⟩
theorem wd_901 : kG (Cond.code yX13_isLook cX13_isLook 2 (some .boolean)) := ⟨tk_7 _ (List.mem_of_getElem? (i := 192) (by decide +kernel)), Or.inl rfl⟩
theorem wd_902 : kG (Cond.methodLink RX13 363 yX13_looked) := ⟨tk_7 _ (List.mem_of_getElem? (i := 193) (by decide +kernel)), Or.inl rfl⟩
theorem wd_903 : kG (Cond.static yX13_looked) := ⟨tk_7 _ (List.mem_of_getElem? (i := 194) (by decide +kernel)), Or.inl rfl⟩
theorem wd_904 : kG (Cond.code yX13_looked cX13_looked 4 (some .int)) := ⟨tk_7 _ (List.mem_of_getElem? (i := 195) (by decide +kernel)), Or.inl rfl⟩
theorem wd_905 : kG (Cond.methodLink RX13 357 yX13_reversed) := ⟨tk_7 _ (List.mem_of_getElem? (i := 196) (by decide +kernel)), Or.inl rfl⟩
theorem wd_906 : kG (Cond.static yX13_reversed) := ⟨tk_7 _ (List.mem_of_getElem? (i := 197) (by decide +kernel)), Or.inl rfl⟩
theorem wd_907 : kG (Cond.code yX13_reversed cX13_reversed 4 (some .int)) := ⟨tk_7 _ (List.mem_of_getElem? (i := 198) (by decide +kernel)), Or.inl rfl⟩
theorem gp_wsX13_kinds_r2 : GoodIn lw_tbl wsX13_kinds_r2 := k_gc wd_896 (k_gc wd_897 (k_gc wd_898 (k_gc wd_899 (k_gc wd_900 (k_gc wd_901 (k_gc wd_902 (k_gc wd_903 (k_gc wd_904 (k_gc wd_905 (k_gc wd_906 (k_gc wd_907 (k_gc wd_566 (k_gc wd_567 (k_gc wd_568 (k_gc wd_477 (k_gc wd_478 (k_gc wd_479 (k_gc wd_480 k_gn))))))))))))))))))
theorem gp_wsX13_kinds : GoodIn lw_tbl wsX13_kinds := k_gc wd_895 (goodIn_app (goodIn_app (gp_wsX13_kinds_r1) (gp_wsX13_kinds_r2)) (k_G_wsX130))
theorem wd_908 : kG (Cond.methodLink RL 111 yX13_kinds) := ⟨tk_7 _ (List.mem_of_getElem? (i := 183) (by decide +kernel)), Or.inl rfl⟩
theorem wd_909 : kG (Cond.instanceMethod yX13_kinds) := ⟨tk_7 _ (List.mem_of_getElem? (i := 184) (by decide +kernel)), Or.inl rfl⟩
theorem wd_910 : kG (Cond.selects RX13 yX13_kinds yX13_kinds) := ⟨tk_7 _ (List.mem_of_getElem? (i := 185) (by decide +kernel)), Or.inl rfl⟩
theorem wd_911 : kG (Cond.code yX11_alike cX11_alike 6 (some .int)) := ⟨tk_4 _ (List.mem_of_getElem? (i := 52) (by decide +kernel)), Or.inl rfl⟩
theorem gp_wsX11_alike_r1 : GoodIn lw_tbl wsX11_alike_r1 := k_gc wd_15 (k_gc wd_501 (k_gc wd_502 (k_gc wd_503 (k_gc wd_115 (k_gc wd_504 (k_gc wd_126 (k_gc wd_127 (k_gc wd_128 (k_gc wd_129 (k_gc wd_130 (k_gc wd_867 (k_gc wd_868 (k_gc wd_869 (k_gc wd_506 (k_gc wd_299 (k_gc wd_300 (k_gc wd_14 (k_gc wd_301 (k_gc wd_52 (k_gc wd_296 (k_gc wd_297 (k_gc wd_329 (k_gc wd_330 k_gn)))))))))))))))))))))))
theorem wd_912 : kG (Cond.methodLink RX11 212 yX8_leastAlike) := ⟨tk_4 _ (List.mem_of_getElem? (i := 53) (by decide +kernel)), Or.inl rfl⟩
theorem wd_913 : kG (Cond.static yX8_leastAlike) := ⟨tk_4 _ (List.mem_of_getElem? (i := 54) (by decide +kernel)), Or.inl rfl⟩
theorem wd_914 : kG (Cond.code yX8_leastAlike cX8_leastAlike 5 (some .int)) := ⟨tk_4 _ (List.mem_of_getElem? (i := 55) (by decide +kernel)), Or.inl rfl⟩
theorem wd_915 : kG (Cond.methodLink RX8 65 Lib.Math.min.name) := ⟨tk_4 _ (List.mem_of_getElem? (i := 59) (by decide +kernel)), Or.inl rfl⟩
theorem gp_wsX11_alike_r2 : GoodIn lw_tbl wsX11_alike_r2 := k_gc wd_331 (k_gc wd_332 (k_gc wd_505 (k_gc wd_324 (k_gc wd_325 (k_gc wd_326 (k_gc wd_51 (k_gc wd_912 (k_gc wd_913 (k_gc wd_509 (k_gc wd_914 (k_gc wd_915 (k_gc wd_813 (k_gc wd_535 (k_gc wd_814 (k_gc wd_889 (k_gc wd_890 (k_gc wd_891 (k_gc wd_879 (k_gc wd_880 (k_gc wd_881 (k_gc wd_882 (k_gc wd_883 (k_gc wd_884 k_gn)))))))))))))))))))))))
theorem wd_916 : kG (Cond.methodLink RX8 74 yX8_leastTurned) := ⟨tk_4 _ (List.mem_of_getElem? (i := 56) (by decide +kernel)), Or.inl rfl⟩
theorem wd_917 : kG (Cond.static yX8_leastTurned) := ⟨tk_4 _ (List.mem_of_getElem? (i := 57) (by decide +kernel)), Or.inl rfl⟩
theorem wd_918 : kG (Cond.code yX8_leastTurned cX8_leastTurned 5 (some .int)) := ⟨tk_4 _ (List.mem_of_getElem? (i := 58) (by decide +kernel)), Or.inl rfl⟩
theorem gp_wsX11_alike_r3 : GoodIn lw_tbl wsX11_alike_r3 := k_gc wd_885 (k_gc wd_871 (k_gc wd_872 (k_gc wd_886 (k_gc wd_887 (k_gc wd_888 (k_gc wd_916 (k_gc wd_917 (k_gc wd_918 (k_gc wd_524 (k_gc wd_525 (k_gc wd_526 k_gn)))))))))))
theorem gp_wsX11_alike : GoodIn lw_tbl wsX11_alike := k_gc wd_911 (goodIn_app (goodIn_app (goodIn_app (gp_wsX11_alike_r1) (goodIn_app (gp_wsX11_alike_r2) (gp_wsX11_alike_r3))) (k_G_wsX110)) (k_G_wsX90))
theorem wd_919 : kG (Cond.methodLink RL 112 yX11_alike) := ⟨tk_4 _ (List.mem_of_getElem? (i := 49) (by decide +kernel)), Or.inl rfl⟩
theorem wd_920 : kG (Cond.instanceMethod yX11_alike) := ⟨tk_4 _ (List.mem_of_getElem? (i := 50) (by decide +kernel)), Or.inl rfl⟩
theorem wd_921 : kG (Cond.selects RX11 yX11_alike yX11_alike) := ⟨tk_4 _ (List.mem_of_getElem? (i := 51) (by decide +kernel)), Or.inl rfl⟩
theorem wd_922 : kG (Cond.code yX13_alike cX13_alike 4 (some .int)) := ⟨tk_7 _ (List.mem_of_getElem? (i := 202) (by decide +kernel)), Or.inl rfl⟩
theorem wd_923 : kG (Cond.methodLink RX13 369 yX13_leastBy) := ⟨tk_7 _ (List.mem_of_getElem? (i := 203) (by decide +kernel)), Or.inl rfl⟩
theorem wd_924 : kG (Cond.instanceMethod yX13_leastBy) := ⟨tk_7 _ (List.mem_of_getElem? (i := 205) (by decide +kernel)), Or.inl rfl⟩
theorem wd_925 : kG (Cond.selects RX13 yX13_leastBy yX13_leastBy) := ⟨List.mem_of_getElem? (i := 64) (by decide +kernel), Or.inl rfl⟩
theorem gp_wsX13_alike_r1 : GoodIn lw_tbl wsX13_alike_r1 := k_gc wd_117 (k_gc wd_542 (k_gc wd_543 (k_gc wd_544 (k_gc wd_122 (k_gc wd_545 (k_gc wd_347 (k_gc wd_350 (k_gc wd_351 (k_gc wd_352 (k_gc wd_353 (k_gc wd_345 (k_gc wd_90 (k_gc wd_435 (k_gc wd_436 (k_gc wd_437 (k_gc wd_546 (k_gc wd_547 (k_gc wd_548 (k_gc wd_549 (k_gc wd_92 (k_gc wd_923 (k_gc wd_924 (k_gc wd_925 k_gn)))))))))))))))))))))))
theorem wd_926 : kG (Cond.code yX13_leastBy cX13_leastBy 3 (some .int)) := ⟨tk_7 _ (List.mem_of_getElem? (i := 206) (by decide +kernel)), Or.inl rfl⟩
theorem gp_wsX13_alike_r2 : GoodIn lw_tbl wsX13_alike_r2 := k_gc wd_926 (k_gc wd_550 (k_gc wd_551 (k_gc wd_552 (k_gc wd_553 (k_gc wd_896 (k_gc wd_897 (k_gc wd_898 (k_gc wd_899 (k_gc wd_900 (k_gc wd_901 (k_gc wd_902 (k_gc wd_903 (k_gc wd_904 (k_gc wd_569 (k_gc wd_570 (k_gc wd_571 (k_gc wd_905 (k_gc wd_906 (k_gc wd_907 (k_gc wd_566 (k_gc wd_567 (k_gc wd_568 (k_gc wd_477 k_gn)))))))))))))))))))))))
theorem gp_wsX13_alike_r3 : GoodIn lw_tbl wsX13_alike_r3 := k_gc wd_478 (k_gc wd_479 (k_gc wd_480 k_gn))
theorem gp_wsX13_alike : GoodIn lw_tbl wsX13_alike := k_gc wd_922 (goodIn_app (goodIn_app (goodIn_app (gp_wsX13_alike_r1) (goodIn_app (gp_wsX13_alike_r2) (gp_wsX13_alike_r3))) (k_G_wsX130)) (k_G_wsX120))
theorem wd_927 : kG (Cond.methodLink RL 116 yX13_alike) := ⟨tk_7 _ (List.mem_of_getElem? (i := 199) (by decide +kernel)), Or.inl rfl⟩
theorem wd_928 : kG (Cond.instanceMethod yX13_alike) := ⟨tk_7 _ (List.mem_of_getElem? (i := 200) (by decide +kernel)), Or.inl rfl⟩
theorem wd_929 : kG (Cond.selects RX13 yX13_alike yX13_alike) := ⟨tk_7 _ (List.mem_of_getElem? (i := 201) (by decide +kernel)), Or.inl rfl⟩
theorem wd_930 : kG (Cond.code yX11_least cX11_least 3 (some .int)) := ⟨tk_4 _ (List.mem_of_getElem? (i := 63) (by decide +kernel)), Or.inl rfl⟩
theorem gp_wsX11_least_r1 : GoodIn lw_tbl wsX11_least_r1 := k_gc wd_15 (k_gc wd_501 (k_gc wd_502 (k_gc wd_503 (k_gc wd_115 (k_gc wd_504 (k_gc wd_126 (k_gc wd_127 (k_gc wd_128 (k_gc wd_129 (k_gc wd_130 (k_gc wd_867 (k_gc wd_868 (k_gc wd_869 (k_gc wd_505 (k_gc wd_324 (k_gc wd_325 (k_gc wd_14 (k_gc wd_326 (k_gc wd_51 (k_gc wd_296 (k_gc wd_297 (k_gc wd_506 (k_gc wd_299 k_gn)))))))))))))))))))))))
theorem gp_wsX11_least_r2 : GoodIn lw_tbl wsX11_least_r2 := k_gc wd_300 (k_gc wd_301 (k_gc wd_52 (k_gc wd_912 (k_gc wd_913 (k_gc wd_509 (k_gc wd_914 (k_gc wd_915 (k_gc wd_813 (k_gc wd_535 (k_gc wd_814 (k_gc wd_889 (k_gc wd_890 (k_gc wd_891 (k_gc wd_879 (k_gc wd_880 (k_gc wd_881 (k_gc wd_882 (k_gc wd_883 (k_gc wd_884 (k_gc wd_885 (k_gc wd_871 (k_gc wd_872 (k_gc wd_886 k_gn)))))))))))))))))))))))
theorem gp_wsX11_least_r3 : GoodIn lw_tbl wsX11_least_r3 := k_gc wd_887 (k_gc wd_888 (k_gc wd_916 (k_gc wd_917 (k_gc wd_918 (k_gc wd_524 (k_gc wd_525 (k_gc wd_526 (k_gc wd_329 (k_gc wd_330 (k_gc wd_331 (k_gc wd_332 k_gn)))))))))))
theorem gp_wsX11_least : GoodIn lw_tbl wsX11_least := k_gc wd_930 (goodIn_app (goodIn_app (goodIn_app (gp_wsX11_least_r1) (goodIn_app (gp_wsX11_least_r2) (gp_wsX11_least_r3))) (k_G_wsX110)) (k_G_wsX90))
theorem wd_931 : kG (Cond.methodLink RL 117 yX11_least) := ⟨tk_4 _ (List.mem_of_getElem? (i := 60) (by decide +kernel)), Or.inl rfl⟩
theorem wd_932 : kG (Cond.instanceMethod yX11_least) := ⟨tk_4 _ (List.mem_of_getElem? (i := 61) (by decide +kernel)), Or.inl rfl⟩
theorem wd_933 : kG (Cond.selects RX11 yX11_least yX11_least) := ⟨tk_4 _ (List.mem_of_getElem? (i := 62) (by decide +kernel)), Or.inl rfl⟩
theorem wd_934 : kG (Cond.code yX13_least cX13_least 3 (some .int)) := ⟨tk_7 _ (List.mem_of_getElem? (i := 210) (by decide +kernel)), Or.inl rfl⟩
theorem gp_wsX13_least_r1 : GoodIn lw_tbl wsX13_least_r1 := k_gc wd_117 (k_gc wd_542 (k_gc wd_543 (k_gc wd_544 (k_gc wd_122 (k_gc wd_545 (k_gc wd_347 (k_gc wd_350 (k_gc wd_351 (k_gc wd_352 (k_gc wd_353 (k_gc wd_345 (k_gc wd_90 (k_gc wd_435 (k_gc wd_436 (k_gc wd_437 (k_gc wd_923 (k_gc wd_924 (k_gc wd_925 (k_gc wd_926 (k_gc wd_550 (k_gc wd_551 (k_gc wd_552 (k_gc wd_553 k_gn)))))))))))))))))))))))
theorem gp_wsX13_least_r2 : GoodIn lw_tbl wsX13_least_r2 := k_gc wd_92 (k_gc wd_546 (k_gc wd_547 (k_gc wd_548 (k_gc wd_549 (k_gc wd_896 (k_gc wd_897 (k_gc wd_898 (k_gc wd_899 (k_gc wd_900 (k_gc wd_901 (k_gc wd_902 (k_gc wd_903 (k_gc wd_904 (k_gc wd_569 (k_gc wd_570 (k_gc wd_571 (k_gc wd_905 (k_gc wd_906 (k_gc wd_907 (k_gc wd_566 (k_gc wd_567 (k_gc wd_568 (k_gc wd_477 k_gn)))))))))))))))))))))))
theorem gp_wsX13_least_r3 : GoodIn lw_tbl wsX13_least_r3 := k_gc wd_478 (k_gc wd_479 (k_gc wd_480 k_gn))
theorem gp_wsX13_least : GoodIn lw_tbl wsX13_least := k_gc wd_934 (goodIn_app (goodIn_app (goodIn_app (gp_wsX13_least_r1) (goodIn_app (gp_wsX13_least_r2) (gp_wsX13_least_r3))) (k_G_wsX130)) (k_G_wsX120))
theorem wd_935 : kG (Cond.methodLink RL 120 yX13_least) := ⟨tk_7 _ (List.mem_of_getElem? (i := 207) (by decide +kernel)), Or.inl rfl⟩
theorem wd_936 : kG (Cond.instanceMethod yX13_least) := ⟨tk_7 _ (List.mem_of_getElem? (i := 208) (by decide +kernel)), Or.inl rfl⟩
theorem wd_937 : kG (Cond.selects RX13 yX13_least yX13_least) := ⟨tk_7 _ (List.mem_of_getElem? (i := 209) (by decide +kernel)), Or.inl rfl⟩
theorem wd_938 : kG (Cond.code yX11_manyAlike cX11_manyAlike 3 (some .int)) := ⟨tk_4 _ (List.mem_of_getElem? (i := 67) (by decide +kernel)), Or.inl rfl⟩
theorem gp_wsX11_manyAlike_r1 : GoodIn lw_tbl wsX11_manyAlike_r1 := k_gc wd_15 (k_gc wd_501 (k_gc wd_502 (k_gc wd_503 (k_gc wd_115 (k_gc wd_504 (k_gc wd_126 (k_gc wd_127 (k_gc wd_128 (k_gc wd_129 (k_gc wd_130 (k_gc wd_867 (k_gc wd_868 (k_gc wd_869 (k_gc wd_505 (k_gc wd_324 (k_gc wd_325 (k_gc wd_14 (k_gc wd_326 (k_gc wd_51 (k_gc wd_296 (k_gc wd_297 (k_gc wd_506 (k_gc wd_299 k_gn)))))))))))))))))))))))
theorem wd_939 : kG (Cond.methodLink RX11 215 yX8_countAlike) := ⟨tk_4 _ (List.mem_of_getElem? (i := 68) (by decide +kernel)), Or.inl rfl⟩
theorem wd_940 : kG (Cond.static yX8_countAlike) := ⟨tk_4 _ (List.mem_of_getElem? (i := 69) (by decide +kernel)), Or.inl rfl⟩
theorem wd_941 : kG (Cond.code yX8_countAlike cX8_countAlike 7 (some .int)) := ⟨tk_4 _ (List.mem_of_getElem? (i := 70) (by decide +kernel)), Or.inl rfl⟩
theorem gp_wsX11_manyAlike_r2 : GoodIn lw_tbl wsX11_manyAlike_r2 := k_gc wd_300 (k_gc wd_301 (k_gc wd_52 (k_gc wd_939 (k_gc wd_940 (k_gc wd_509 (k_gc wd_941 (k_gc wd_889 (k_gc wd_890 (k_gc wd_891 (k_gc wd_879 (k_gc wd_880 (k_gc wd_881 (k_gc wd_882 (k_gc wd_883 (k_gc wd_884 (k_gc wd_885 (k_gc wd_871 (k_gc wd_872 (k_gc wd_886 (k_gc wd_887 (k_gc wd_888 (k_gc wd_916 (k_gc wd_917 k_gn)))))))))))))))))))))))
theorem wd_942 : kG (Cond.methodLink RX8 77 yX8_period) := ⟨tk_4 _ (List.mem_of_getElem? (i := 71) (by decide +kernel)), Or.inl rfl⟩
theorem gp_wsX11_manyAlike_r3 : GoodIn lw_tbl wsX11_manyAlike_r3 := k_gc wd_918 (k_gc wd_915 (k_gc wd_813 (k_gc wd_535 (k_gc wd_814 (k_gc wd_524 (k_gc wd_525 (k_gc wd_526 (k_gc wd_942 (k_gc wd_522 (k_gc wd_523 (k_gc wd_329 (k_gc wd_330 (k_gc wd_331 (k_gc wd_332 k_gn))))))))))))))
theorem gp_wsX11_manyAlike : GoodIn lw_tbl wsX11_manyAlike := k_gc wd_938 (goodIn_app (goodIn_app (goodIn_app (gp_wsX11_manyAlike_r1) (goodIn_app (gp_wsX11_manyAlike_r2) (gp_wsX11_manyAlike_r3))) (k_G_wsX110)) (k_G_wsX90))
theorem wd_943 : kG (Cond.methodLink RL 121 yX11_manyAlike) := ⟨tk_4 _ (List.mem_of_getElem? (i := 64) (by decide +kernel)), Or.inl rfl⟩
theorem wd_944 : kG (Cond.instanceMethod yX11_manyAlike) := ⟨tk_4 _ (List.mem_of_getElem? (i := 65) (by decide +kernel)), Or.inl rfl⟩
theorem wd_945 : kG (Cond.selects RX11 yX11_manyAlike yX11_manyAlike) := ⟨tk_4 _ (List.mem_of_getElem? (i := 66) (by decide +kernel)), Or.inl rfl⟩
theorem wd_946 : kG (Cond.code yX13_manyAlike cX13_manyAlike 5 (some .int)) := ⟨tk_7 _ (List.mem_of_getElem? (i := 214) (by decide +kernel)), Or.inl rfl⟩
theorem gp_wsX13_manyAlike_r1 : GoodIn lw_tbl wsX13_manyAlike_r1 := k_gc wd_117 (k_gc wd_542 (k_gc wd_543 (k_gc wd_544 (k_gc wd_122 (k_gc wd_545 (k_gc wd_347 (k_gc wd_350 (k_gc wd_351 (k_gc wd_352 (k_gc wd_353 (k_gc wd_345 (k_gc wd_90 (k_gc wd_435 (k_gc wd_436 (k_gc wd_437 (k_gc wd_546 (k_gc wd_547 (k_gc wd_548 (k_gc wd_549 (k_gc wd_92 (k_gc wd_569 (k_gc wd_570 (k_gc wd_571 k_gn)))))))))))))))))))))))
theorem gp_wsX13_manyAlike_r2 : GoodIn lw_tbl wsX13_manyAlike_r2 := k_gc wd_896 (k_gc wd_897 (k_gc wd_898 (k_gc wd_899 (k_gc wd_900 (k_gc wd_901 (k_gc wd_902 (k_gc wd_903 (k_gc wd_904 (k_gc wd_905 (k_gc wd_906 (k_gc wd_907 (k_gc wd_566 (k_gc wd_567 (k_gc wd_568 (k_gc wd_923 (k_gc wd_924 (k_gc wd_925 (k_gc wd_926 (k_gc wd_550 (k_gc wd_551 (k_gc wd_552 (k_gc wd_553 (k_gc wd_477 k_gn)))))))))))))))))))))))
theorem gp_wsX13_manyAlike_r3 : GoodIn lw_tbl wsX13_manyAlike_r3 := k_gc wd_478 (k_gc wd_479 (k_gc wd_480 k_gn))
theorem gp_wsX13_manyAlike : GoodIn lw_tbl wsX13_manyAlike := k_gc wd_946 (goodIn_app (goodIn_app (goodIn_app (gp_wsX13_manyAlike_r1) (goodIn_app (gp_wsX13_manyAlike_r2) (gp_wsX13_manyAlike_r3))) (k_G_wsX130)) (k_G_wsX120))
theorem wd_947 : kG (Cond.methodLink RL 124 yX13_manyAlike) := ⟨tk_7 _ (List.mem_of_getElem? (i := 211) (by decide +kernel)), Or.inl rfl⟩
theorem wd_948 : kG (Cond.instanceMethod yX13_manyAlike) := ⟨tk_7 _ (List.mem_of_getElem? (i := 212) (by decide +kernel)), Or.inl rfl⟩
theorem wd_949 : kG (Cond.selects RX13 yX13_manyAlike yX13_manyAlike) := ⟨tk_7 _ (List.mem_of_getElem? (i := 213) (by decide +kernel)), Or.inl rfl⟩
theorem wd_950 : kG (Cond.code yX11_slips cX11_slips 5 (some .int)) := ⟨tk_4 _ (List.mem_of_getElem? (i := 75) (by decide +kernel)), Or.inl rfl⟩
theorem gp_wsX11_slips_r1 : GoodIn lw_tbl wsX11_slips_r1 := k_gc wd_15 (k_gc wd_501 (k_gc wd_502 (k_gc wd_503 (k_gc wd_115 (k_gc wd_504 (k_gc wd_126 (k_gc wd_127 (k_gc wd_128 (k_gc wd_129 (k_gc wd_130 (k_gc wd_867 (k_gc wd_868 (k_gc wd_869 (k_gc wd_506 (k_gc wd_299 (k_gc wd_300 (k_gc wd_14 (k_gc wd_301 (k_gc wd_52 (k_gc wd_296 (k_gc wd_297 (k_gc wd_329 (k_gc wd_330 k_gn)))))))))))))))))))))))
theorem wd_951 : kG (Cond.methodLink RX11 218 yX8_fewestSlips) := ⟨tk_4 _ (List.mem_of_getElem? (i := 76) (by decide +kernel)), Or.inl rfl⟩
theorem wd_952 : kG (Cond.static yX8_fewestSlips) := ⟨tk_4 _ (List.mem_of_getElem? (i := 77) (by decide +kernel)), Or.inl rfl⟩
theorem wd_953 : kG (Cond.code yX8_fewestSlips cX8_fewestSlips 8 (some .int)) := ⟨tk_4 _ (List.mem_of_getElem? (i := 78) (by decide +kernel)), Or.inl rfl⟩
theorem gp_wsX11_slips_r2 : GoodIn lw_tbl wsX11_slips_r2 := k_gc wd_331 (k_gc wd_332 (k_gc wd_505 (k_gc wd_324 (k_gc wd_325 (k_gc wd_326 (k_gc wd_51 (k_gc wd_951 (k_gc wd_952 (k_gc wd_509 (k_gc wd_953 (k_gc wd_915 (k_gc wd_813 (k_gc wd_535 (k_gc wd_814 (k_gc wd_879 (k_gc wd_880 (k_gc wd_881 (k_gc wd_882 (k_gc wd_883 (k_gc wd_884 (k_gc wd_885 (k_gc wd_871 (k_gc wd_872 k_gn)))))))))))))))))))))))
theorem gp_wsX11_slips_r3 : GoodIn lw_tbl wsX11_slips_r3 := k_gc wd_886 (k_gc wd_887 (k_gc wd_888 (k_gc wd_889 (k_gc wd_890 (k_gc wd_891 (k_gc wd_514 (k_gc wd_515 (k_gc wd_516 (k_gc wd_517 (k_gc wd_518 (k_gc wd_519 (k_gc wd_520 (k_gc wd_524 (k_gc wd_525 (k_gc wd_526 k_gn)))))))))))))))
theorem gp_wsX11_slips : GoodIn lw_tbl wsX11_slips := k_gc wd_950 (goodIn_app (goodIn_app (goodIn_app (gp_wsX11_slips_r1) (goodIn_app (gp_wsX11_slips_r2) (gp_wsX11_slips_r3))) (k_G_wsX110)) (k_G_wsX90))
theorem wd_954 : kG (Cond.methodLink RL 125 yX11_slips) := ⟨tk_4 _ (List.mem_of_getElem? (i := 72) (by decide +kernel)), Or.inl rfl⟩
theorem wd_955 : kG (Cond.instanceMethod yX11_slips) := ⟨tk_4 _ (List.mem_of_getElem? (i := 73) (by decide +kernel)), Or.inl rfl⟩
theorem wd_956 : kG (Cond.selects RX11 yX11_slips yX11_slips) := ⟨tk_4 _ (List.mem_of_getElem? (i := 74) (by decide +kernel)), Or.inl rfl⟩
theorem wd_957 : kG (Cond.code yX13_slips cX13_slips 9 (some .int)) := ⟨tk_7 _ (List.mem_of_getElem? (i := 218) (by decide +kernel)), Or.inl rfl⟩
theorem gp_wsX13_slips_r1 : GoodIn lw_tbl wsX13_slips_r1 := k_gc wd_117 (k_gc wd_827 (k_gc wd_542 (k_gc wd_543 (k_gc wd_544 (k_gc wd_122 (k_gc wd_545 (k_gc wd_347 (k_gc wd_350 (k_gc wd_351 (k_gc wd_352 (k_gc wd_353 (k_gc wd_345 (k_gc wd_90 (k_gc wd_435 (k_gc wd_436 (k_gc wd_437 (k_gc wd_546 (k_gc wd_547 (k_gc wd_548 (k_gc wd_549 (k_gc wd_92 (k_gc wd_477 (k_gc wd_478 k_gn)))))))))))))))))))))))
theorem gp_wsX13_slips_r2 : GoodIn lw_tbl wsX13_slips_r2 := k_gc wd_479 (k_gc wd_480 (k_gc wd_899 (k_gc wd_900 (k_gc wd_901 (k_gc wd_550 (k_gc wd_551 (k_gc wd_552 (k_gc wd_553 (k_gc wd_902 (k_gc wd_903 (k_gc wd_904 (k_gc wd_569 (k_gc wd_570 (k_gc wd_571 (k_gc wd_905 (k_gc wd_906 (k_gc wd_907 (k_gc wd_560 (k_gc wd_561 (k_gc wd_562 (k_gc wd_566 (k_gc wd_567 (k_gc wd_568 k_gn)))))))))))))))))))))))
theorem gp_wsX13_slips : GoodIn lw_tbl wsX13_slips := k_gc wd_957 (goodIn_app (goodIn_app (goodIn_app (gp_wsX13_slips_r1) (gp_wsX13_slips_r2)) (k_G_wsX130)) (k_G_wsX120))
theorem wd_958 : kG (Cond.methodLink RL 128 yX13_slips) := ⟨tk_7 _ (List.mem_of_getElem? (i := 215) (by decide +kernel)), Or.inl rfl⟩
theorem wd_959 : kG (Cond.instanceMethod yX13_slips) := ⟨tk_7 _ (List.mem_of_getElem? (i := 216) (by decide +kernel)), Or.inl rfl⟩
theorem wd_960 : kG (Cond.selects RX13 yX13_slips yX13_slips) := ⟨tk_7 _ (List.mem_of_getElem? (i := 217) (by decide +kernel)), Or.inl rfl⟩
theorem wd_961 : kG (Cond.code yX11_slipEnergy cX11_slipEnergy 4 (some .int)) := ⟨tk_4 _ (List.mem_of_getElem? (i := 82) (by decide +kernel)), Or.inl rfl⟩
theorem gp_wsX11_slipEnergy_r1 : GoodIn lw_tbl wsX11_slipEnergy_r1 := k_gc wd_694 (k_gc wd_15 (k_gc wd_35 (k_gc wd_501 (k_gc wd_502 (k_gc wd_503 (k_gc wd_115 (k_gc wd_504 (k_gc wd_126 (k_gc wd_127 (k_gc wd_128 (k_gc wd_129 (k_gc wd_130 (k_gc wd_506 (k_gc wd_299 (k_gc wd_300 (k_gc wd_14 (k_gc wd_301 (k_gc wd_52 (k_gc wd_296 (k_gc wd_297 (k_gc wd_505 (k_gc wd_324 (k_gc wd_325 k_gn)))))))))))))))))))))))
theorem wd_962 : kG (Cond.methodLink RX11 222 yX8_bit) := ⟨tk_4 _ (List.mem_of_getElem? (i := 83) (by decide +kernel)), Or.inl rfl⟩
theorem wd_963 : kG (Cond.static yX8_bit) := ⟨tk_4 _ (List.mem_of_getElem? (i := 84) (by decide +kernel)), Or.inl rfl⟩
theorem wd_964 : kG (Cond.code yX8_bit cX8_bit 2 (some .int)) := ⟨tk_4 _ (List.mem_of_getElem? (i := 85) (by decide +kernel)), Or.inl rfl⟩
theorem gp_wsX11_slipEnergy_r2 : GoodIn lw_tbl wsX11_slipEnergy_r2 := k_gc wd_326 (k_gc wd_51 (k_gc wd_962 (k_gc wd_963 (k_gc wd_509 (k_gc wd_964 (k_gc wd_695 (k_gc wd_696 (k_gc wd_697 (k_gc wd_34 (k_gc wd_698 (k_gc wd_699 (k_gc wd_700 (k_gc wd_701 (k_gc wd_702 (k_gc wd_525 (k_gc wd_526 (k_gc wd_703 (k_gc wd_704 (k_gc wd_705 (k_gc wd_706 (k_gc wd_515 (k_gc wd_516 (k_gc wd_517 k_gn)))))))))))))))))))))))
theorem gp_wsX11_slipEnergy_r3 : GoodIn lw_tbl wsX11_slipEnergy_r3 := k_gc wd_518 (k_gc wd_519 (k_gc wd_520 (k_gc wd_329 (k_gc wd_330 (k_gc wd_331 (k_gc wd_332 k_gn))))))
theorem gp_wsX11_slipEnergy : GoodIn lw_tbl wsX11_slipEnergy := k_gc wd_961 (goodIn_app (goodIn_app (goodIn_app (goodIn_app (gp_wsX11_slipEnergy_r1) (goodIn_app (gp_wsX11_slipEnergy_r2) (gp_wsX11_slipEnergy_r3))) (k_G_wsX110)) (k_G_wsX90)) (k_G_wsX40))
theorem wd_965 : kG (Cond.methodLink RL 129 yX11_slipEnergy) := ⟨tk_4 _ (List.mem_of_getElem? (i := 79) (by decide +kernel)), Or.inl rfl⟩
theorem wd_966 : kG (Cond.instanceMethod yX11_slipEnergy) := ⟨tk_4 _ (List.mem_of_getElem? (i := 80) (by decide +kernel)), Or.inl rfl⟩
theorem wd_967 : kG (Cond.selects RX11 yX11_slipEnergy yX11_slipEnergy) := ⟨tk_4 _ (List.mem_of_getElem? (i := 81) (by decide +kernel)), Or.inl rfl⟩
theorem wd_968 : kG (Cond.code yX13_slipEnergy cX13_slipEnergy 3 (some .int)) := ⟨tk_7 _ (List.mem_of_getElem? (i := 222) (by decide +kernel)), Or.inl rfl⟩
theorem gp_wsX13_slipEnergy_r1 : GoodIn lw_tbl wsX13_slipEnergy_r1 := k_gc wd_117 (k_gc wd_711 (k_gc wd_542 (k_gc wd_543 (k_gc wd_544 (k_gc wd_122 (k_gc wd_545 (k_gc wd_347 (k_gc wd_593 (k_gc wd_594 (k_gc wd_595 (k_gc wd_596 (k_gc wd_350 (k_gc wd_351 (k_gc wd_352 (k_gc wd_353 (k_gc wd_345 (k_gc wd_90 (k_gc wd_546 (k_gc wd_547 (k_gc wd_548 (k_gc wd_549 (k_gc wd_92 (k_gc wd_435 k_gn)))))))))))))))))))))))
theorem wd_969 : kG (Cond.methodLink RX13 372 yX13_slipped) := ⟨tk_7 _ (List.mem_of_getElem? (i := 223) (by decide +kernel)), Or.inl rfl⟩
theorem wd_970 : kG (Cond.static yX13_slipped) := ⟨tk_7 _ (List.mem_of_getElem? (i := 224) (by decide +kernel)), Or.inl rfl⟩
theorem wd_971 : kG (Cond.code yX13_slipped cX13_slipped 3 (some .int)) := ⟨tk_7 _ (List.mem_of_getElem? (i := 225) (by decide +kernel)), Or.inl rfl⟩
theorem gp_wsX13_slipEnergy_r2 : GoodIn lw_tbl wsX13_slipEnergy_r2 := k_gc wd_436 (k_gc wd_437 (k_gc wd_550 (k_gc wd_551 (k_gc wd_552 (k_gc wd_553 (k_gc wd_969 (k_gc wd_970 (k_gc wd_971 (k_gc wd_712 (k_gc wd_713 (k_gc wd_714 (k_gc wd_715 (k_gc wd_578 (k_gc wd_579 (k_gc wd_580 (k_gc wd_477 (k_gc wd_478 (k_gc wd_479 (k_gc wd_480 k_gn)))))))))))))))))))
theorem gp_wsX13_slipEnergy : GoodIn lw_tbl wsX13_slipEnergy := k_gc wd_968 (goodIn_app (goodIn_app (goodIn_app (gp_wsX13_slipEnergy_r1) (gp_wsX13_slipEnergy_r2)) (k_G_wsX130)) (k_G_wsX120))
theorem wd_972 : kG (Cond.methodLink RL 132 yX13_slipEnergy) := ⟨tk_7 _ (List.mem_of_getElem? (i := 219) (by decide +kernel)), Or.inl rfl⟩
theorem wd_973 : kG (Cond.instanceMethod yX13_slipEnergy) := ⟨tk_7 _ (List.mem_of_getElem? (i := 220) (by decide +kernel)), Or.inl rfl⟩
theorem wd_974 : kG (Cond.selects RX13 yX13_slipEnergy yX13_slipEnergy) := ⟨tk_7 _ (List.mem_of_getElem? (i := 221) (by decide +kernel)), Or.inl rfl⟩
theorem wd_975 : kG (Cond.code yX11_weakest cX11_weakest 2 (some .int)) := ⟨tk_4 _ (List.mem_of_getElem? (i := 89) (by decide +kernel)), Or.inl rfl⟩
theorem gp_wsX11_weakest_r1 : GoodIn lw_tbl wsX11_weakest_r1 := k_gc wd_35 (k_gc wd_15 (k_gc wd_501 (k_gc wd_502 (k_gc wd_503 (k_gc wd_115 (k_gc wd_504 (k_gc wd_126 (k_gc wd_127 (k_gc wd_128 (k_gc wd_129 (k_gc wd_130 (k_gc wd_505 (k_gc wd_324 (k_gc wd_325 (k_gc wd_14 (k_gc wd_326 (k_gc wd_51 (k_gc wd_296 (k_gc wd_297 (k_gc wd_506 (k_gc wd_299 (k_gc wd_300 (k_gc wd_301 k_gn)))))))))))))))))))))))
theorem wd_976 : kG (Cond.methodLink RX11 225 yX4_weakestStep) := ⟨tk_4 _ (List.mem_of_getElem? (i := 90) (by decide +kernel)), Or.inl rfl⟩
theorem wd_977 : kG (Cond.instanceMethod yX4_weakestStep) := ⟨tk_4 _ (List.mem_of_getElem? (i := 91) (by decide +kernel)), Or.inl rfl⟩
theorem wd_978 : kG (Cond.selects RX4 yX4_weakestStep yX4_weakestStep) := ⟨tk_4 _ (List.mem_of_getElem? (i := 92) (by decide +kernel)), Or.inl rfl⟩
theorem wd_979 : kG (Cond.code yX4_weakestStep cX4_weakestStep 5 (some .int)) := ⟨tk_4 _ (List.mem_of_getElem? (i := 93) (by decide +kernel)), Or.inl rfl⟩
theorem wd_980 : kG (Cond.methodLink RX4 89 yX8_bit) := ⟨tk_4 _ (List.mem_of_getElem? (i := 94) (by decide +kernel)), Or.inl rfl⟩
theorem wd_981 : kG (Cond.methodLink RX4 92 yX4_energyOf) := ⟨tk_4 _ (List.mem_of_getElem? (i := 95) (by decide +kernel)), Or.inl rfl⟩
theorem gp_wsX11_weakest_r2 : GoodIn lw_tbl wsX11_weakest_r2 := k_gc wd_52 (k_gc wd_976 (k_gc wd_977 (k_gc wd_978 (k_gc wd_34 (k_gc wd_979 (k_gc wd_980 (k_gc wd_963 (k_gc wd_509 (k_gc wd_964 (k_gc wd_981 (k_gc wd_696 (k_gc wd_697 (k_gc wd_698 (k_gc wd_699 (k_gc wd_700 (k_gc wd_701 (k_gc wd_702 (k_gc wd_525 (k_gc wd_526 (k_gc wd_703 (k_gc wd_704 (k_gc wd_705 (k_gc wd_706 k_gn)))))))))))))))))))))))
theorem gp_wsX11_weakest_r3 : GoodIn lw_tbl wsX11_weakest_r3 := k_gc wd_515 (k_gc wd_516 (k_gc wd_517 (k_gc wd_518 (k_gc wd_519 (k_gc wd_520 (k_gc wd_329 (k_gc wd_330 (k_gc wd_331 (k_gc wd_332 k_gn)))))))))
theorem gp_wsX11_weakest : GoodIn lw_tbl wsX11_weakest := k_gc wd_975 (goodIn_app (goodIn_app (goodIn_app (goodIn_app (gp_wsX11_weakest_r1) (goodIn_app (gp_wsX11_weakest_r2) (gp_wsX11_weakest_r3))) (k_G_wsX110)) (k_G_wsX90)) (k_G_wsX40))
theorem wd_982 : kG (Cond.methodLink RL 133 yX11_weakest) := ⟨tk_4 _ (List.mem_of_getElem? (i := 86) (by decide +kernel)), Or.inl rfl⟩
theorem wd_983 : kG (Cond.instanceMethod yX11_weakest) := ⟨tk_4 _ (List.mem_of_getElem? (i := 87) (by decide +kernel)), Or.inl rfl⟩
theorem wd_984 : kG (Cond.selects RX11 yX11_weakest yX11_weakest) := ⟨tk_4 _ (List.mem_of_getElem? (i := 88) (by decide +kernel)), Or.inl rfl⟩
theorem wd_985 : kG (Cond.code yX13_weakest cX13_weakest 2 (some .int)) := ⟨tk_7 _ (List.mem_of_getElem? (i := 229) (by decide +kernel)), Or.inl rfl⟩
theorem wd_986 : kG (Cond.methodLink RX13 375 yX13_weakestOf) := ⟨tk_7 _ (List.mem_of_getElem? (i := 230) (by decide +kernel)), Or.inl rfl⟩
theorem wd_987 : kG (Cond.instanceMethod yX13_weakestOf) := ⟨tk_7 _ (List.mem_of_getElem? (i := 232) (by decide +kernel)), Or.inl rfl⟩
theorem wd_988 : kG (Cond.selects RX13 yX13_weakestOf yX13_weakestOf) := ⟨List.mem_of_getElem? (i := 65) (by decide +kernel), Or.inl rfl⟩
theorem wd_989 : kG (Cond.code yX13_weakestOf cX13_weakestOf 5 (some .int)) := ⟨tk_7 _ (List.mem_of_getElem? (i := 233) (by decide +kernel)), Or.inl rfl⟩
theorem gp_wsX13_weakest_r1 : GoodIn lw_tbl wsX13_weakest_r1 := k_gc wd_117 (k_gc wd_542 (k_gc wd_543 (k_gc wd_544 (k_gc wd_122 (k_gc wd_545 (k_gc wd_347 (k_gc wd_550 (k_gc wd_551 (k_gc wd_552 (k_gc wd_553 (k_gc wd_92 (k_gc wd_546 (k_gc wd_547 (k_gc wd_548 (k_gc wd_549 (k_gc wd_986 (k_gc wd_987 (k_gc wd_988 (k_gc wd_989 (k_gc wd_969 (k_gc wd_970 (k_gc wd_971 (k_gc wd_712 k_gn)))))))))))))))))))))))
theorem gp_wsX13_weakest_r2 : GoodIn lw_tbl wsX13_weakest_r2 := k_gc wd_713 (k_gc wd_714 (k_gc wd_715 (k_gc wd_578 (k_gc wd_579 (k_gc wd_580 (k_gc wd_477 (k_gc wd_478 (k_gc wd_479 (k_gc wd_480 (k_gc wd_345 (k_gc wd_90 (k_gc wd_350 (k_gc wd_351 (k_gc wd_352 (k_gc wd_353 k_gn)))))))))))))))
theorem gp_wsX13_weakest : GoodIn lw_tbl wsX13_weakest := k_gc wd_985 (goodIn_app (goodIn_app (goodIn_app (gp_wsX13_weakest_r1) (gp_wsX13_weakest_r2)) (k_G_wsX130)) (k_G_wsX120))
theorem wd_990 : kG (Cond.methodLink RL 136 yX13_weakest) := ⟨tk_7 _ (List.mem_of_getElem? (i := 226) (by decide +kernel)), Or.inl rfl⟩
theorem wd_991 : kG (Cond.instanceMethod yX13_weakest) := ⟨tk_7 _ (List.mem_of_getElem? (i := 227) (by decide +kernel)), Or.inl rfl⟩
theorem wd_992 : kG (Cond.selects RX13 yX13_weakest yX13_weakest) := ⟨tk_7 _ (List.mem_of_getElem? (i := 228) (by decide +kernel)), Or.inl rfl⟩
theorem wd_993 : kG (Cond.code yX11_relax cX11_relax 2 (some .int)) := ⟨tk_4 _ (List.mem_of_getElem? (i := 99) (by decide +kernel)), Or.inl rfl⟩
theorem gp_wsX11_relax_r1 : GoodIn lw_tbl wsX11_relax_r1 := k_gc wd_31 (k_gc wd_35 (k_gc wd_15 (k_gc wd_501 (k_gc wd_502 (k_gc wd_503 (k_gc wd_115 (k_gc wd_504 (k_gc wd_126 (k_gc wd_127 (k_gc wd_128 (k_gc wd_129 (k_gc wd_130 (k_gc wd_505 (k_gc wd_324 (k_gc wd_325 (k_gc wd_14 (k_gc wd_326 (k_gc wd_51 (k_gc wd_296 (k_gc wd_297 (k_gc wd_506 (k_gc wd_299 (k_gc wd_300 k_gn)))))))))))))))))))))))
theorem wd_994 : kG (Cond.methodLink RX11 228 yX5_settle) := ⟨tk_4 _ (List.mem_of_getElem? (i := 100) (by decide +kernel)), Or.inl rfl⟩
theorem wd_995 : kG (Cond.instanceMethod yX5_settle) := ⟨tk_4 _ (List.mem_of_getElem? (i := 101) (by decide +kernel)), Or.inl rfl⟩
theorem wd_996 : kG (Cond.selects RX5 yX5_settle yX5_settle) := ⟨tk_4 _ (List.mem_of_getElem? (i := 102) (by decide +kernel)), Or.inl rfl⟩
theorem wd_997 : kG (Cond.code yX5_settle cX5_settle 6 none) := ⟨tk_4 _ (List.mem_of_getElem? (i := 103) (by decide +kernel)), Or.inl rfl⟩
theorem wd_998 : kG (Cond.fieldLink RX5 69 "ClosePacking$Landscape" "rowAtRest" "I") := ⟨tk_1 _ (List.mem_of_getElem? (i := 170) (by decide +kernel)), Or.inl rfl⟩
theorem wd_999 : kG (Cond.fieldLink RX5 72 "ClosePacking$Landscape" "slipsToRest" "I") := ⟨tk_1 _ (List.mem_of_getElem? (i := 172) (by decide +kernel)), Or.inl rfl⟩
theorem wd_1000 : kG (Cond.methodLink RX5 75 yX4_weakestStep) := ⟨tk_4 _ (List.mem_of_getElem? (i := 104) (by decide +kernel)), Or.inl rfl⟩
theorem gp_wsX11_relax_r2 : GoodIn lw_tbl wsX11_relax_r2 := k_gc wd_301 (k_gc wd_52 (k_gc wd_994 (k_gc wd_995 (k_gc wd_996 (k_gc wd_30 (k_gc wd_997 (k_gc wd_998 (k_gc wd_999 (k_gc wd_1000 (k_gc wd_977 (k_gc wd_978 (k_gc wd_34 (k_gc wd_979 (k_gc wd_980 (k_gc wd_963 (k_gc wd_509 (k_gc wd_964 (k_gc wd_981 (k_gc wd_696 (k_gc wd_697 (k_gc wd_698 (k_gc wd_699 (k_gc wd_700 k_gn)))))))))))))))))))))))
theorem wd_1001 : kG (Cond.methodLink RX5 78 yX8_bit) := ⟨tk_4 _ (List.mem_of_getElem? (i := 105) (by decide +kernel)), Or.inl rfl⟩
theorem gp_wsX11_relax_r3 : GoodIn lw_tbl wsX11_relax_r3 := k_gc wd_701 (k_gc wd_702 (k_gc wd_525 (k_gc wd_526 (k_gc wd_703 (k_gc wd_704 (k_gc wd_705 (k_gc wd_706 (k_gc wd_515 (k_gc wd_516 (k_gc wd_517 (k_gc wd_518 (k_gc wd_519 (k_gc wd_520 (k_gc wd_1001 (k_gc wd_807 (k_gc wd_329 (k_gc wd_330 (k_gc wd_331 (k_gc wd_332 k_gn)))))))))))))))))))
theorem gp_wsX11_relax : GoodIn lw_tbl wsX11_relax := k_gc wd_993 (goodIn_app (goodIn_app (goodIn_app (goodIn_app (goodIn_app (gp_wsX11_relax_r1) (goodIn_app (gp_wsX11_relax_r2) (gp_wsX11_relax_r3))) (k_G_wsX110)) (k_G_wsX50)) (k_G_wsX90)) (k_G_wsX40))
theorem wd_1002 : kG (Cond.methodLink RL 137 yX11_relax) := ⟨tk_4 _ (List.mem_of_getElem? (i := 96) (by decide +kernel)), Or.inl rfl⟩
theorem wd_1003 : kG (Cond.instanceMethod yX11_relax) := ⟨tk_4 _ (List.mem_of_getElem? (i := 97) (by decide +kernel)), Or.inl rfl⟩
theorem wd_1004 : kG (Cond.selects RX11 yX11_relax yX11_relax) := ⟨tk_4 _ (List.mem_of_getElem? (i := 98) (by decide +kernel)), Or.inl rfl⟩
theorem wd_1005 : kG (Cond.code yX13_relax cX13_relax 2 (some .int)) := ⟨tk_8 _ (List.mem_of_getElem? (i := 8) (by decide +kernel)), Or.inl rfl⟩
theorem wd_1006 : kG (Cond.fieldLink RX13 381 "ClosePackingModel" "relaxedMany" "I") := ⟨tk_5 _ (List.mem_of_getElem? (i := 212) (by decide +kernel)), Or.inl rfl⟩
theorem wd_1007 : kG (Cond.methodLink RX13 384 yX13_relaxing) := ⟨tk_8 _ (List.mem_of_getElem? (i := 9) (by decide +kernel)), Or.inl rfl⟩
theorem wd_1008 : kG (Cond.instanceMethod yX13_relaxing) := ⟨tk_8 _ (List.mem_of_getElem? (i := 11) (by decide +kernel)), Or.inl rfl⟩
theorem wd_1009 : kG (Cond.selects RX13 yX13_relaxing yX13_relaxing) := ⟨List.mem_of_getElem? (i := 66) (by decide +kernel), Or.inl rfl⟩
theorem wd_1010 : kG (Cond.code yX13_relaxing cX13_relaxing 5 (some .int)) := ⟨tk_8 _ (List.mem_of_getElem? (i := 12) (by decide +kernel)), Or.inl rfl⟩
theorem gp_wsX13_relax_r1 : GoodIn lw_tbl wsX13_relax_r1 := k_gc wd_117 (k_gc wd_1006 (k_gc wd_542 (k_gc wd_543 (k_gc wd_544 (k_gc wd_122 (k_gc wd_545 (k_gc wd_347 (k_gc wd_350 (k_gc wd_351 (k_gc wd_352 (k_gc wd_353 (k_gc wd_345 (k_gc wd_90 (k_gc wd_1007 (k_gc wd_1008 (k_gc wd_1009 (k_gc wd_1010 (k_gc wd_546 (k_gc wd_547 (k_gc wd_548 (k_gc wd_549 (k_gc wd_92 (k_gc wd_550 k_gn)))))))))))))))))))))))
theorem gp_wsX13_relax_r2 : GoodIn lw_tbl wsX13_relax_r2 := k_gc wd_551 (k_gc wd_552 (k_gc wd_553 (k_gc wd_986 (k_gc wd_987 (k_gc wd_988 (k_gc wd_989 (k_gc wd_969 (k_gc wd_970 (k_gc wd_971 (k_gc wd_712 (k_gc wd_713 (k_gc wd_714 (k_gc wd_715 (k_gc wd_578 (k_gc wd_579 (k_gc wd_580 (k_gc wd_477 (k_gc wd_478 (k_gc wd_479 (k_gc wd_480 k_gn))))))))))))))))))))
theorem gp_wsX13_relax : GoodIn lw_tbl wsX13_relax := k_gc wd_1005 (goodIn_app (goodIn_app (goodIn_app (gp_wsX13_relax_r1) (gp_wsX13_relax_r2)) (k_G_wsX130)) (k_G_wsX120))
theorem wd_1011 : kG (Cond.methodLink RL 140 yX13_relax) := ⟨tk_8 _ (List.mem_of_getElem? (i := 5) (by decide +kernel)), Or.inl rfl⟩
theorem wd_1012 : kG (Cond.instanceMethod yX13_relax) := ⟨tk_8 _ (List.mem_of_getElem? (i := 6) (by decide +kernel)), Or.inl rfl⟩
theorem wd_1013 : kG (Cond.selects RX13 yX13_relax yX13_relax) := ⟨tk_8 _ (List.mem_of_getElem? (i := 7) (by decide +kernel)), Or.inl rfl⟩
theorem wd_1014 : kG (Cond.code yX11_relaxed cX11_relaxed 2 (some .int)) := ⟨tk_4 _ (List.mem_of_getElem? (i := 109) (by decide +kernel)), Or.inl rfl⟩
theorem gp_wsX11_relaxed_r1 : GoodIn lw_tbl wsX11_relaxed_r1 := k_gc wd_31 (k_gc wd_35 (k_gc wd_15 (k_gc wd_501 (k_gc wd_502 (k_gc wd_503 (k_gc wd_115 (k_gc wd_504 (k_gc wd_126 (k_gc wd_127 (k_gc wd_128 (k_gc wd_129 (k_gc wd_130 (k_gc wd_505 (k_gc wd_324 (k_gc wd_325 (k_gc wd_14 (k_gc wd_326 (k_gc wd_51 (k_gc wd_296 (k_gc wd_297 (k_gc wd_506 (k_gc wd_299 (k_gc wd_300 k_gn)))))))))))))))))))))))
theorem gp_wsX11_relaxed_r2 : GoodIn lw_tbl wsX11_relaxed_r2 := k_gc wd_301 (k_gc wd_52 (k_gc wd_994 (k_gc wd_995 (k_gc wd_996 (k_gc wd_30 (k_gc wd_997 (k_gc wd_998 (k_gc wd_999 (k_gc wd_1000 (k_gc wd_977 (k_gc wd_978 (k_gc wd_34 (k_gc wd_979 (k_gc wd_980 (k_gc wd_963 (k_gc wd_509 (k_gc wd_964 (k_gc wd_981 (k_gc wd_696 (k_gc wd_697 (k_gc wd_698 (k_gc wd_699 (k_gc wd_700 k_gn)))))))))))))))))))))))
theorem gp_wsX11_relaxed_r3 : GoodIn lw_tbl wsX11_relaxed_r3 := k_gc wd_701 (k_gc wd_702 (k_gc wd_525 (k_gc wd_526 (k_gc wd_703 (k_gc wd_704 (k_gc wd_705 (k_gc wd_706 (k_gc wd_515 (k_gc wd_516 (k_gc wd_517 (k_gc wd_518 (k_gc wd_519 (k_gc wd_520 (k_gc wd_1001 (k_gc wd_807 (k_gc wd_329 (k_gc wd_330 (k_gc wd_331 (k_gc wd_332 k_gn)))))))))))))))))))
theorem gp_wsX11_relaxed : GoodIn lw_tbl wsX11_relaxed := k_gc wd_1014 (goodIn_app (goodIn_app (goodIn_app (goodIn_app (goodIn_app (gp_wsX11_relaxed_r1) (goodIn_app (gp_wsX11_relaxed_r2) (gp_wsX11_relaxed_r3))) (k_G_wsX110)) (k_G_wsX50)) (k_G_wsX90)) (k_G_wsX40))
theorem wd_1015 : kG (Cond.methodLink RL 141 yX11_relaxed) := ⟨tk_4 _ (List.mem_of_getElem? (i := 106) (by decide +kernel)), Or.inl rfl⟩
theorem wd_1016 : kG (Cond.instanceMethod yX11_relaxed) := ⟨tk_4 _ (List.mem_of_getElem? (i := 107) (by decide +kernel)), Or.inl rfl⟩
theorem wd_1017 : kG (Cond.selects RX11 yX11_relaxed yX11_relaxed) := ⟨tk_4 _ (List.mem_of_getElem? (i := 108) (by decide +kernel)), Or.inl rfl⟩
theorem wd_1018 : kG (Cond.code yX13_relaxed cX13_relaxed 2 (some .int)) := ⟨tk_8 _ (List.mem_of_getElem? (i := 16) (by decide +kernel)), Or.inl rfl⟩
theorem gp_wsX13_relaxed_r1 : GoodIn lw_tbl wsX13_relaxed_r1 := k_gc wd_117 (k_gc wd_542 (k_gc wd_543 (k_gc wd_544 (k_gc wd_122 (k_gc wd_545 (k_gc wd_347 (k_gc wd_1007 (k_gc wd_1008 (k_gc wd_1009 (k_gc wd_1010 (k_gc wd_1006 (k_gc wd_546 (k_gc wd_547 (k_gc wd_548 (k_gc wd_549 (k_gc wd_92 (k_gc wd_550 (k_gc wd_551 (k_gc wd_552 (k_gc wd_553 (k_gc wd_986 (k_gc wd_987 (k_gc wd_988 k_gn)))))))))))))))))))))))
theorem gp_wsX13_relaxed_r2 : GoodIn lw_tbl wsX13_relaxed_r2 := k_gc wd_989 (k_gc wd_969 (k_gc wd_970 (k_gc wd_971 (k_gc wd_712 (k_gc wd_713 (k_gc wd_714 (k_gc wd_715 (k_gc wd_578 (k_gc wd_579 (k_gc wd_580 (k_gc wd_477 (k_gc wd_478 (k_gc wd_479 (k_gc wd_480 (k_gc wd_345 (k_gc wd_90 (k_gc wd_350 (k_gc wd_351 (k_gc wd_352 (k_gc wd_353 k_gn))))))))))))))))))))
theorem gp_wsX13_relaxed : GoodIn lw_tbl wsX13_relaxed := k_gc wd_1018 (goodIn_app (goodIn_app (goodIn_app (gp_wsX13_relaxed_r1) (gp_wsX13_relaxed_r2)) (k_G_wsX130)) (k_G_wsX120))
theorem wd_1019 : kG (Cond.methodLink RL 144 yX13_relaxed) := ⟨tk_8 _ (List.mem_of_getElem? (i := 13) (by decide +kernel)), Or.inl rfl⟩
theorem wd_1020 : kG (Cond.instanceMethod yX13_relaxed) := ⟨tk_8 _ (List.mem_of_getElem? (i := 14) (by decide +kernel)), Or.inl rfl⟩
theorem wd_1021 : kG (Cond.selects RX13 yX13_relaxed yX13_relaxed) := ⟨tk_8 _ (List.mem_of_getElem? (i := 15) (by decide +kernel)), Or.inl rfl⟩
theorem wd_1022 : kG (Cond.code yX11_pass cX11_pass 4 (some .int)) := ⟨tk_4 _ (List.mem_of_getElem? (i := 113) (by decide +kernel)), Or.inl rfl⟩
theorem gp_wsX11_pass_r1 : GoodIn lw_tbl wsX11_pass_r1 := k_gc wd_694 (k_gc wd_15 (k_gc wd_31 (k_gc wd_35 (k_gc wd_501 (k_gc wd_502 (k_gc wd_503 (k_gc wd_115 (k_gc wd_504 (k_gc wd_126 (k_gc wd_127 (k_gc wd_128 (k_gc wd_129 (k_gc wd_130 (k_gc wd_506 (k_gc wd_299 (k_gc wd_300 (k_gc wd_14 (k_gc wd_301 (k_gc wd_52 (k_gc wd_296 (k_gc wd_297 (k_gc wd_801 (k_gc wd_802 k_gn)))))))))))))))))))))))
theorem gp_wsX11_pass_r2 : GoodIn lw_tbl wsX11_pass_r2 := k_gc wd_803 (k_gc wd_30 (k_gc wd_804 (k_gc wd_805 (k_gc wd_806 (k_gc wd_72 (k_gc wd_807 (k_gc wd_696 (k_gc wd_697 (k_gc wd_34 (k_gc wd_698 (k_gc wd_699 (k_gc wd_700 (k_gc wd_701 (k_gc wd_702 (k_gc wd_525 (k_gc wd_509 (k_gc wd_526 (k_gc wd_703 (k_gc wd_704 (k_gc wd_705 (k_gc wd_706 (k_gc wd_515 (k_gc wd_516 k_gn)))))))))))))))))))))))
theorem wd_1023 : kG (Cond.methodLink RX11 238 yX5_lowestPass) := ⟨tk_4 _ (List.mem_of_getElem? (i := 114) (by decide +kernel)), Or.inl rfl⟩
theorem wd_1024 : kG (Cond.instanceMethod yX5_lowestPass) := ⟨tk_4 _ (List.mem_of_getElem? (i := 115) (by decide +kernel)), Or.inl rfl⟩
theorem wd_1025 : kG (Cond.selects RX5 yX5_lowestPass yX5_lowestPass) := ⟨tk_4 _ (List.mem_of_getElem? (i := 116) (by decide +kernel)), Or.inl rfl⟩
theorem wd_1026 : kG (Cond.code yX5_lowestPass cX5_lowestPass 5 (some .int)) := ⟨tk_4 _ (List.mem_of_getElem? (i := 117) (by decide +kernel)), Or.inl rfl⟩
theorem wd_1027 : kG (Cond.methodLink RX5 63 Lib.Math.max.name) := ⟨tk_4 _ (List.mem_of_getElem? (i := 118) (by decide +kernel)), Or.inl rfl⟩
theorem wd_1028 : kG (Cond.fieldLink RX5 56 "ClosePacking$Landscape" "leastAbove" "I") := ⟨tk_1 _ (List.mem_of_getElem? (i := 169) (by decide +kernel)), Or.inl rfl⟩
theorem wd_1029 : kG (Cond.methodLink RX5 66 yX5_flood) := ⟨tk_4 _ (List.mem_of_getElem? (i := 119) (by decide +kernel)), Or.inl rfl⟩
theorem wd_1030 : kG (Cond.instanceMethod yX5_flood) := ⟨tk_4 _ (List.mem_of_getElem? (i := 120) (by decide +kernel)), Or.inl rfl⟩
theorem wd_1031 : kG (Cond.selects RX5 yX5_flood yX5_flood) := ⟨tk_4 _ (List.mem_of_getElem? (i := 121) (by decide +kernel)), Or.inl rfl⟩
theorem gp_wsX11_pass_r3 : GoodIn lw_tbl wsX11_pass_r3 := k_gc wd_517 (k_gc wd_518 (k_gc wd_519 (k_gc wd_520 (k_gc wd_282 (k_gc wd_283 (k_gc wd_505 (k_gc wd_324 (k_gc wd_325 (k_gc wd_326 (k_gc wd_51 (k_gc wd_1023 (k_gc wd_1024 (k_gc wd_1025 (k_gc wd_1026 (k_gc wd_1027 (k_gc wd_534 (k_gc wd_535 (k_gc wd_536 (k_gc wd_75 (k_gc wd_1028 (k_gc wd_1029 (k_gc wd_1030 (k_gc wd_1031 k_gn)))))))))))))))))))))))
theorem wd_1032 : kG (Cond.code yX5_flood cX5_flood 6 (some .int)) := ⟨tk_4 _ (List.mem_of_getElem? (i := 122) (by decide +kernel)), Or.inl rfl⟩
theorem wd_1033 : kG (Cond.fieldLink RX5 52 "ClosePacking$Landscape" "queued" "I") := ⟨tk_1 _ (List.mem_of_getElem? (i := 168) (by decide +kernel)), Or.inl rfl⟩
theorem wd_1034 : kG (Cond.constant RX5 55 (1000000)) := ⟨tk_4 _ (List.mem_of_getElem? (i := 123) (by decide +kernel)), Or.inl rfl⟩
theorem wd_1035 : kG (Cond.methodLink RX5 59 yX5_reach) := ⟨tk_4 _ (List.mem_of_getElem? (i := 124) (by decide +kernel)), Or.inl rfl⟩
theorem wd_1036 : kG (Cond.instanceMethod yX5_reach) := ⟨tk_4 _ (List.mem_of_getElem? (i := 126) (by decide +kernel)), Or.inl rfl⟩
theorem wd_1037 : kG (Cond.selects RX5 yX5_reach yX5_reach) := ⟨List.mem_of_getElem? (i := 26) (by decide +kernel), Or.inl rfl⟩
theorem wd_1038 : kG (Cond.code yX5_reach cX5_reach 2 none) := ⟨tk_4 _ (List.mem_of_getElem? (i := 127) (by decide +kernel)), Or.inl rfl⟩
theorem gp_wsX11_pass_r4 : GoodIn lw_tbl wsX11_pass_r4 := k_gc wd_1032 (k_gc wd_1033 (k_gc wd_1034 (k_gc wd_73 (k_gc wd_812 (k_gc wd_813 (k_gc wd_814 (k_gc wd_1035 (k_gc wd_1036 (k_gc wd_1037 (k_gc wd_1038 (k_gc wd_329 (k_gc wd_330 (k_gc wd_331 (k_gc wd_332 k_gn))))))))))))))
theorem gp_wsX11_pass : GoodIn lw_tbl wsX11_pass := k_gc wd_1022 (goodIn_app (goodIn_app (goodIn_app (goodIn_app (goodIn_app (gp_wsX11_pass_r1) (goodIn_app (gp_wsX11_pass_r2) (goodIn_app (gp_wsX11_pass_r3) (gp_wsX11_pass_r4)))) (k_G_wsX110)) (k_G_wsX90)) (k_G_wsX50)) (k_G_wsX40))
theorem wd_1039 : kG (Cond.methodLink RL 145 yX11_pass) := ⟨tk_4 _ (List.mem_of_getElem? (i := 110) (by decide +kernel)), Or.inl rfl⟩
theorem wd_1040 : kG (Cond.instanceMethod yX11_pass) := ⟨tk_4 _ (List.mem_of_getElem? (i := 111) (by decide +kernel)), Or.inl rfl⟩
theorem wd_1041 : kG (Cond.selects RX11 yX11_pass yX11_pass) := ⟨tk_4 _ (List.mem_of_getElem? (i := 112) (by decide +kernel)), Or.inl rfl⟩
theorem wd_1042 : kG (Cond.code yX13_pass cX13_pass 7 (some .int)) := ⟨tk_8 _ (List.mem_of_getElem? (i := 20) (by decide +kernel)), Or.inl rfl⟩
theorem gp_wsX13_pass_r1 : GoodIn lw_tbl wsX13_pass_r1 := k_gc wd_117 (k_gc wd_711 (k_gc wd_99 (k_gc wd_827 (k_gc wd_100 (k_gc wd_542 (k_gc wd_543 (k_gc wd_544 (k_gc wd_122 (k_gc wd_545 (k_gc wd_347 (k_gc wd_593 (k_gc wd_594 (k_gc wd_595 (k_gc wd_596 (k_gc wd_350 (k_gc wd_351 (k_gc wd_352 (k_gc wd_353 (k_gc wd_345 (k_gc wd_90 (k_gc wd_546 (k_gc wd_547 (k_gc wd_548 k_gn)))))))))))))))))))))))
theorem wd_1043 : kG (Cond.methodLink RX13 387 yX13_laysEnergies) := ⟨tk_8 _ (List.mem_of_getElem? (i := 21) (by decide +kernel)), Or.inl rfl⟩
theorem wd_1044 : kG (Cond.instanceMethod yX13_laysEnergies) := ⟨tk_8 _ (List.mem_of_getElem? (i := 23) (by decide +kernel)), Or.inl rfl⟩
theorem wd_1045 : kG (Cond.selects RX13 yX13_laysEnergies yX13_laysEnergies) := ⟨List.mem_of_getElem? (i := 67) (by decide +kernel), Or.inl rfl⟩
theorem wd_1046 : kG (Cond.code yX13_laysEnergies cX13_laysEnergies 3 none) := ⟨tk_8 _ (List.mem_of_getElem? (i := 24) (by decide +kernel)), Or.inl rfl⟩
theorem wd_1047 : kG (Cond.methodLink RX13 390 yX13_floods) := ⟨tk_8 _ (List.mem_of_getElem? (i := 25) (by decide +kernel)), Or.inl rfl⟩
theorem wd_1048 : kG (Cond.instanceMethod yX13_floods) := ⟨tk_8 _ (List.mem_of_getElem? (i := 27) (by decide +kernel)), Or.inl rfl⟩
theorem wd_1049 : kG (Cond.selects RX13 yX13_floods yX13_floods) := ⟨List.mem_of_getElem? (i := 68) (by decide +kernel), Or.inl rfl⟩
theorem wd_1050 : kG (Cond.code yX13_floods cX13_floods 8 (some .int)) := ⟨tk_8 _ (List.mem_of_getElem? (i := 28) (by decide +kernel)), Or.inl rfl⟩
theorem gp_wsX13_pass_r2 : GoodIn lw_tbl wsX13_pass_r2 := k_gc wd_549 (k_gc wd_92 (k_gc wd_1043 (k_gc wd_1044 (k_gc wd_1045 (k_gc wd_1046 (k_gc wd_569 (k_gc wd_570 (k_gc wd_571 (k_gc wd_712 (k_gc wd_713 (k_gc wd_714 (k_gc wd_715 (k_gc wd_578 (k_gc wd_579 (k_gc wd_580 (k_gc wd_550 (k_gc wd_551 (k_gc wd_552 (k_gc wd_553 (k_gc wd_1047 (k_gc wd_1048 (k_gc wd_1049 (k_gc wd_1050 k_gn)))))))))))))))))))))))
theorem gp_wsX13_pass_r3 : GoodIn lw_tbl wsX13_pass_r3 := k_gc wd_98 (k_gc wd_969 (k_gc wd_970 (k_gc wd_971 (k_gc wd_477 (k_gc wd_478 (k_gc wd_479 (k_gc wd_480 k_gn)))))))
theorem gp_wsX13_pass : GoodIn lw_tbl wsX13_pass := k_gc wd_1042 (goodIn_app (goodIn_app (goodIn_app (gp_wsX13_pass_r1) (goodIn_app (gp_wsX13_pass_r2) (gp_wsX13_pass_r3))) (k_G_wsX130)) (k_G_wsX120))
theorem wd_1051 : kG (Cond.methodLink RL 148 yX13_pass) := ⟨tk_8 _ (List.mem_of_getElem? (i := 17) (by decide +kernel)), Or.inl rfl⟩
theorem wd_1052 : kG (Cond.instanceMethod yX13_pass) := ⟨tk_8 _ (List.mem_of_getElem? (i := 18) (by decide +kernel)), Or.inl rfl⟩
theorem wd_1053 : kG (Cond.selects RX13 yX13_pass yX13_pass) := ⟨tk_8 _ (List.mem_of_getElem? (i := 19) (by decide +kernel)), Or.inl rfl⟩
theorem wd_1054 : kG (Cond.code yX11_valley cX11_valley 4 (some .int)) := ⟨tk_4 _ (List.mem_of_getElem? (i := 131) (by decide +kernel)), Or.inl rfl⟩
theorem gp_wsX11_valley_r1 : GoodIn lw_tbl wsX11_valley_r1 := k_gc wd_15 (k_gc wd_31 (k_gc wd_35 (k_gc wd_501 (k_gc wd_502 (k_gc wd_503 (k_gc wd_115 (k_gc wd_504 (k_gc wd_126 (k_gc wd_127 (k_gc wd_128 (k_gc wd_129 (k_gc wd_130 (k_gc wd_506 (k_gc wd_299 (k_gc wd_300 (k_gc wd_14 (k_gc wd_301 (k_gc wd_52 (k_gc wd_296 (k_gc wd_297 (k_gc wd_505 (k_gc wd_324 (k_gc wd_325 k_gn)))))))))))))))))))))))
theorem gp_wsX11_valley_r2 : GoodIn lw_tbl wsX11_valley_r2 := k_gc wd_326 (k_gc wd_51 (k_gc wd_801 (k_gc wd_802 (k_gc wd_803 (k_gc wd_30 (k_gc wd_804 (k_gc wd_805 (k_gc wd_806 (k_gc wd_72 (k_gc wd_807 (k_gc wd_696 (k_gc wd_697 (k_gc wd_34 (k_gc wd_698 (k_gc wd_699 (k_gc wd_700 (k_gc wd_701 (k_gc wd_702 (k_gc wd_525 (k_gc wd_509 (k_gc wd_526 (k_gc wd_703 (k_gc wd_704 k_gn)))))))))))))))))))))))
theorem wd_1055 : kG (Cond.methodLink RX11 241 yX5_flood) := ⟨tk_4 _ (List.mem_of_getElem? (i := 132) (by decide +kernel)), Or.inl rfl⟩
theorem gp_wsX11_valley_r3 : GoodIn lw_tbl wsX11_valley_r3 := k_gc wd_705 (k_gc wd_706 (k_gc wd_515 (k_gc wd_516 (k_gc wd_517 (k_gc wd_518 (k_gc wd_519 (k_gc wd_520 (k_gc wd_282 (k_gc wd_283 (k_gc wd_695 (k_gc wd_1055 (k_gc wd_1030 (k_gc wd_1031 (k_gc wd_1032 (k_gc wd_75 (k_gc wd_1033 (k_gc wd_1034 (k_gc wd_1028 (k_gc wd_73 (k_gc wd_812 (k_gc wd_813 (k_gc wd_535 (k_gc wd_814 k_gn)))))))))))))))))))))))
theorem gp_wsX11_valley_r4 : GoodIn lw_tbl wsX11_valley_r4 := k_gc wd_1035 (k_gc wd_1036 (k_gc wd_1037 (k_gc wd_1038 (k_gc wd_329 (k_gc wd_330 (k_gc wd_331 (k_gc wd_332 k_gn)))))))
theorem gp_wsX11_valley : GoodIn lw_tbl wsX11_valley := k_gc wd_1054 (goodIn_app (goodIn_app (goodIn_app (goodIn_app (goodIn_app (gp_wsX11_valley_r1) (goodIn_app (gp_wsX11_valley_r2) (goodIn_app (gp_wsX11_valley_r3) (gp_wsX11_valley_r4)))) (k_G_wsX110)) (k_G_wsX90)) (k_G_wsX50)) (k_G_wsX40))
theorem wd_1056 : kG (Cond.methodLink RL 149 yX11_valley) := ⟨tk_4 _ (List.mem_of_getElem? (i := 128) (by decide +kernel)), Or.inl rfl⟩
theorem wd_1057 : kG (Cond.instanceMethod yX11_valley) := ⟨tk_4 _ (List.mem_of_getElem? (i := 129) (by decide +kernel)), Or.inl rfl⟩
theorem wd_1058 : kG (Cond.selects RX11 yX11_valley yX11_valley) := ⟨tk_4 _ (List.mem_of_getElem? (i := 130) (by decide +kernel)), Or.inl rfl⟩
theorem wd_1059 : kG (Cond.code yX13_valley cX13_valley 2 (some .int)) := ⟨tk_8 _ (List.mem_of_getElem? (i := 32) (by decide +kernel)), Or.inl rfl⟩
theorem gp_wsX13_valley_r1 : GoodIn lw_tbl wsX13_valley_r1 := k_gc wd_117 (k_gc wd_99 (k_gc wd_542 (k_gc wd_543 (k_gc wd_544 (k_gc wd_122 (k_gc wd_545 (k_gc wd_347 (k_gc wd_350 (k_gc wd_351 (k_gc wd_352 (k_gc wd_353 (k_gc wd_345 (k_gc wd_90 (k_gc wd_546 (k_gc wd_547 (k_gc wd_548 (k_gc wd_549 (k_gc wd_92 (k_gc wd_1043 (k_gc wd_1044 (k_gc wd_1045 (k_gc wd_1046 (k_gc wd_569 k_gn)))))))))))))))))))))))
theorem gp_wsX13_valley_r2 : GoodIn lw_tbl wsX13_valley_r2 := k_gc wd_570 (k_gc wd_571 (k_gc wd_712 (k_gc wd_713 (k_gc wd_714 (k_gc wd_715 (k_gc wd_578 (k_gc wd_579 (k_gc wd_580 (k_gc wd_550 (k_gc wd_551 (k_gc wd_552 (k_gc wd_553 (k_gc wd_1047 (k_gc wd_1048 (k_gc wd_1049 (k_gc wd_1050 (k_gc wd_100 (k_gc wd_98 (k_gc wd_969 (k_gc wd_970 (k_gc wd_971 (k_gc wd_477 (k_gc wd_478 k_gn)))))))))))))))))))))))
theorem gp_wsX13_valley_r3 : GoodIn lw_tbl wsX13_valley_r3 := k_gc wd_479 (k_gc wd_480 k_gn)
theorem gp_wsX13_valley : GoodIn lw_tbl wsX13_valley := k_gc wd_1059 (goodIn_app (goodIn_app (goodIn_app (gp_wsX13_valley_r1) (goodIn_app (gp_wsX13_valley_r2) (gp_wsX13_valley_r3))) (k_G_wsX130)) (k_G_wsX120))
theorem wd_1060 : kG (Cond.methodLink RL 152 yX13_valley) := ⟨tk_8 _ (List.mem_of_getElem? (i := 29) (by decide +kernel)), Or.inl rfl⟩
theorem wd_1061 : kG (Cond.instanceMethod yX13_valley) := ⟨tk_8 _ (List.mem_of_getElem? (i := 30) (by decide +kernel)), Or.inl rfl⟩
theorem wd_1062 : kG (Cond.selects RX13 yX13_valley yX13_valley) := ⟨tk_8 _ (List.mem_of_getElem? (i := 31) (by decide +kernel)), Or.inl rfl⟩
theorem wd_1063 : kG (Cond.code yX11_faultEnergy cX11_faultEnergy 4 (some .int)) := ⟨tk_4 _ (List.mem_of_getElem? (i := 136) (by decide +kernel)), Or.inl rfl⟩
theorem gp_wsX11_faultEnergy_r1 : GoodIn lw_tbl wsX11_faultEnergy_r1 := k_gc wd_694 (k_gc wd_15 (k_gc wd_35 (k_gc wd_501 (k_gc wd_502 (k_gc wd_503 (k_gc wd_115 (k_gc wd_504 (k_gc wd_126 (k_gc wd_127 (k_gc wd_128 (k_gc wd_129 (k_gc wd_130 (k_gc wd_506 (k_gc wd_299 (k_gc wd_300 (k_gc wd_14 (k_gc wd_301 (k_gc wd_52 (k_gc wd_296 (k_gc wd_297 (k_gc wd_505 (k_gc wd_324 (k_gc wd_325 k_gn)))))))))))))))))))))))
theorem wd_1064 : kG (Cond.methodLink RX11 244 yX8_otherFrom) := ⟨tk_4 _ (List.mem_of_getElem? (i := 137) (by decide +kernel)), Or.inl rfl⟩
theorem wd_1065 : kG (Cond.static yX8_otherFrom) := ⟨tk_4 _ (List.mem_of_getElem? (i := 138) (by decide +kernel)), Or.inl rfl⟩
theorem wd_1066 : kG (Cond.code yX8_otherFrom cX8_otherFrom 3 (some .int)) := ⟨tk_4 _ (List.mem_of_getElem? (i := 139) (by decide +kernel)), Or.inl rfl⟩
theorem gp_wsX11_faultEnergy_r2 : GoodIn lw_tbl wsX11_faultEnergy_r2 := k_gc wd_326 (k_gc wd_51 (k_gc wd_1064 (k_gc wd_1065 (k_gc wd_509 (k_gc wd_1066 (k_gc wd_885 (k_gc wd_871 (k_gc wd_872 (k_gc wd_695 (k_gc wd_696 (k_gc wd_697 (k_gc wd_34 (k_gc wd_698 (k_gc wd_699 (k_gc wd_700 (k_gc wd_701 (k_gc wd_702 (k_gc wd_525 (k_gc wd_526 (k_gc wd_703 (k_gc wd_704 (k_gc wd_705 (k_gc wd_706 k_gn)))))))))))))))))))))))
theorem gp_wsX11_faultEnergy_r3 : GoodIn lw_tbl wsX11_faultEnergy_r3 := k_gc wd_515 (k_gc wd_516 (k_gc wd_517 (k_gc wd_518 (k_gc wd_519 (k_gc wd_520 (k_gc wd_329 (k_gc wd_330 (k_gc wd_331 (k_gc wd_332 k_gn)))))))))
theorem gp_wsX11_faultEnergy : GoodIn lw_tbl wsX11_faultEnergy := k_gc wd_1063 (goodIn_app (goodIn_app (goodIn_app (goodIn_app (gp_wsX11_faultEnergy_r1) (goodIn_app (gp_wsX11_faultEnergy_r2) (gp_wsX11_faultEnergy_r3))) (k_G_wsX110)) (k_G_wsX90)) (k_G_wsX40))
theorem wd_1067 : kG (Cond.methodLink RL 153 yX11_faultEnergy) := ⟨tk_4 _ (List.mem_of_getElem? (i := 133) (by decide +kernel)), Or.inl rfl⟩
theorem wd_1068 : kG (Cond.instanceMethod yX11_faultEnergy) := ⟨tk_4 _ (List.mem_of_getElem? (i := 134) (by decide +kernel)), Or.inl rfl⟩
theorem wd_1069 : kG (Cond.selects RX11 yX11_faultEnergy yX11_faultEnergy) := ⟨tk_4 _ (List.mem_of_getElem? (i := 135) (by decide +kernel)), Or.inl rfl⟩
theorem wd_1070 : kG (Cond.code yX13_faultEnergy cX13_faultEnergy 3 (some .int)) := ⟨tk_7 _ (List.mem_of_getElem? (i := 237) (by decide +kernel)), Or.inl rfl⟩
theorem gp_wsX13_faultEnergy_r1 : GoodIn lw_tbl wsX13_faultEnergy_r1 := k_gc wd_117 (k_gc wd_711 (k_gc wd_542 (k_gc wd_543 (k_gc wd_544 (k_gc wd_122 (k_gc wd_545 (k_gc wd_347 (k_gc wd_593 (k_gc wd_594 (k_gc wd_595 (k_gc wd_596 (k_gc wd_350 (k_gc wd_351 (k_gc wd_352 (k_gc wd_353 (k_gc wd_345 (k_gc wd_90 (k_gc wd_546 (k_gc wd_547 (k_gc wd_548 (k_gc wd_549 (k_gc wd_92 (k_gc wd_435 k_gn)))))))))))))))))))))))
theorem wd_1071 : kG (Cond.methodLink RX13 378 yX13_faulted) := ⟨tk_7 _ (List.mem_of_getElem? (i := 238) (by decide +kernel)), Or.inl rfl⟩
theorem wd_1072 : kG (Cond.static yX13_faulted) := ⟨tk_7 _ (List.mem_of_getElem? (i := 239) (by decide +kernel)), Or.inl rfl⟩
theorem wd_1073 : kG (Cond.code yX13_faulted cX13_faulted 3 (some .int)) := ⟨tk_8 _ (List.mem_of_getElem? (i := 0) (by decide +kernel)), Or.inl rfl⟩
theorem gp_wsX13_faultEnergy_r2 : GoodIn lw_tbl wsX13_faultEnergy_r2 := k_gc wd_436 (k_gc wd_437 (k_gc wd_550 (k_gc wd_551 (k_gc wd_552 (k_gc wd_553 (k_gc wd_1071 (k_gc wd_1072 (k_gc wd_1073 (k_gc wd_569 (k_gc wd_570 (k_gc wd_571 (k_gc wd_712 (k_gc wd_713 (k_gc wd_714 (k_gc wd_715 (k_gc wd_578 (k_gc wd_579 (k_gc wd_580 (k_gc wd_477 (k_gc wd_478 (k_gc wd_479 (k_gc wd_480 k_gn))))))))))))))))))))))
theorem gp_wsX13_faultEnergy : GoodIn lw_tbl wsX13_faultEnergy := k_gc wd_1070 (goodIn_app (goodIn_app (goodIn_app (gp_wsX13_faultEnergy_r1) (gp_wsX13_faultEnergy_r2)) (k_G_wsX130)) (k_G_wsX120))
theorem wd_1074 : kG (Cond.methodLink RL 156 yX13_faultEnergy) := ⟨tk_7 _ (List.mem_of_getElem? (i := 234) (by decide +kernel)), Or.inl rfl⟩
theorem wd_1075 : kG (Cond.instanceMethod yX13_faultEnergy) := ⟨tk_7 _ (List.mem_of_getElem? (i := 235) (by decide +kernel)), Or.inl rfl⟩
theorem wd_1076 : kG (Cond.selects RX13 yX13_faultEnergy yX13_faultEnergy) := ⟨tk_7 _ (List.mem_of_getElem? (i := 236) (by decide +kernel)), Or.inl rfl⟩
theorem wd_1077 : kG (Cond.code yX11_bestFault cX11_bestFault 8 (some .int)) := ⟨tk_4 _ (List.mem_of_getElem? (i := 143) (by decide +kernel)), Or.inl rfl⟩
theorem gp_wsX11_bestFault_r1 : GoodIn lw_tbl wsX11_bestFault_r1 := k_gc wd_15 (k_gc wd_35 (k_gc wd_501 (k_gc wd_502 (k_gc wd_503 (k_gc wd_115 (k_gc wd_504 (k_gc wd_126 (k_gc wd_127 (k_gc wd_128 (k_gc wd_129 (k_gc wd_130 (k_gc wd_505 (k_gc wd_324 (k_gc wd_325 (k_gc wd_14 (k_gc wd_326 (k_gc wd_51 (k_gc wd_296 (k_gc wd_297 (k_gc wd_506 (k_gc wd_299 (k_gc wd_300 (k_gc wd_301 k_gn)))))))))))))))))))))))
theorem gp_wsX11_bestFault_r2 : GoodIn lw_tbl wsX11_bestFault_r2 := k_gc wd_52 (k_gc wd_1064 (k_gc wd_1065 (k_gc wd_509 (k_gc wd_1066 (k_gc wd_885 (k_gc wd_871 (k_gc wd_872 (k_gc wd_695 (k_gc wd_696 (k_gc wd_697 (k_gc wd_34 (k_gc wd_698 (k_gc wd_699 (k_gc wd_700 (k_gc wd_701 (k_gc wd_702 (k_gc wd_525 (k_gc wd_526 (k_gc wd_703 (k_gc wd_704 (k_gc wd_705 (k_gc wd_706 (k_gc wd_515 k_gn)))))))))))))))))))))))
theorem gp_wsX11_bestFault_r3 : GoodIn lw_tbl wsX11_bestFault_r3 := k_gc wd_516 (k_gc wd_517 (k_gc wd_518 (k_gc wd_519 (k_gc wd_520 (k_gc wd_329 (k_gc wd_330 (k_gc wd_331 (k_gc wd_332 k_gn))))))))
theorem gp_wsX11_bestFault : GoodIn lw_tbl wsX11_bestFault := k_gc wd_1077 (goodIn_app (goodIn_app (goodIn_app (goodIn_app (gp_wsX11_bestFault_r1) (goodIn_app (gp_wsX11_bestFault_r2) (gp_wsX11_bestFault_r3))) (k_G_wsX110)) (k_G_wsX90)) (k_G_wsX40))
theorem wd_1078 : kG (Cond.methodLink RL 157 yX11_bestFault) := ⟨tk_4 _ (List.mem_of_getElem? (i := 140) (by decide +kernel)), Or.inl rfl⟩
theorem wd_1079 : kG (Cond.instanceMethod yX11_bestFault) := ⟨tk_4 _ (List.mem_of_getElem? (i := 141) (by decide +kernel)), Or.inl rfl⟩
theorem wd_1080 : kG (Cond.selects RX11 yX11_bestFault yX11_bestFault) := ⟨tk_4 _ (List.mem_of_getElem? (i := 142) (by decide +kernel)), Or.inl rfl⟩
theorem wd_1081 : kG (Cond.code yX13_bestFault cX13_bestFault 5 (some .int)) := ⟨tk_8 _ (List.mem_of_getElem? (i := 4) (by decide +kernel)), Or.inl rfl⟩
theorem gp_wsX13_bestFault_r1 : GoodIn lw_tbl wsX13_bestFault_r1 := k_gc wd_117 (k_gc wd_542 (k_gc wd_543 (k_gc wd_544 (k_gc wd_122 (k_gc wd_545 (k_gc wd_347 (k_gc wd_350 (k_gc wd_351 (k_gc wd_352 (k_gc wd_353 (k_gc wd_345 (k_gc wd_90 (k_gc wd_546 (k_gc wd_547 (k_gc wd_548 (k_gc wd_549 (k_gc wd_92 (k_gc wd_550 (k_gc wd_551 (k_gc wd_552 (k_gc wd_553 (k_gc wd_1071 (k_gc wd_1072 k_gn)))))))))))))))))))))))
theorem gp_wsX13_bestFault_r2 : GoodIn lw_tbl wsX13_bestFault_r2 := k_gc wd_1073 (k_gc wd_569 (k_gc wd_570 (k_gc wd_571 (k_gc wd_712 (k_gc wd_713 (k_gc wd_714 (k_gc wd_715 (k_gc wd_578 (k_gc wd_579 (k_gc wd_580 (k_gc wd_477 (k_gc wd_478 (k_gc wd_479 (k_gc wd_480 k_gn))))))))))))))
theorem gp_wsX13_bestFault : GoodIn lw_tbl wsX13_bestFault := k_gc wd_1081 (goodIn_app (goodIn_app (goodIn_app (gp_wsX13_bestFault_r1) (gp_wsX13_bestFault_r2)) (k_G_wsX130)) (k_G_wsX120))
theorem wd_1082 : kG (Cond.methodLink RL 160 yX13_bestFault) := ⟨tk_8 _ (List.mem_of_getElem? (i := 1) (by decide +kernel)), Or.inl rfl⟩
theorem wd_1083 : kG (Cond.instanceMethod yX13_bestFault) := ⟨tk_8 _ (List.mem_of_getElem? (i := 2) (by decide +kernel)), Or.inl rfl⟩
theorem wd_1084 : kG (Cond.selects RX13 yX13_bestFault yX13_bestFault) := ⟨tk_8 _ (List.mem_of_getElem? (i := 3) (by decide +kernel)), Or.inl rfl⟩
theorem wd_1085 : kG (Cond.code yX11_differs cX11_differs 10 (some .int)) := ⟨tk_4 _ (List.mem_of_getElem? (i := 147) (by decide +kernel)), Or.inl rfl⟩
theorem gp_wsX11_differs_r1 : GoodIn lw_tbl wsX11_differs_r1 := k_gc wd_15 (k_gc wd_501 (k_gc wd_502 (k_gc wd_503 (k_gc wd_115 (k_gc wd_504 (k_gc wd_126 (k_gc wd_127 (k_gc wd_128 (k_gc wd_129 (k_gc wd_130 (k_gc wd_505 (k_gc wd_324 (k_gc wd_325 (k_gc wd_14 (k_gc wd_326 (k_gc wd_51 (k_gc wd_296 (k_gc wd_297 (k_gc wd_506 (k_gc wd_299 (k_gc wd_300 (k_gc wd_301 (k_gc wd_52 k_gn)))))))))))))))))))))))
theorem gp_wsX11_differs_r2 : GoodIn lw_tbl wsX11_differs_r2 := k_gc wd_507 (k_gc wd_508 (k_gc wd_509 (k_gc wd_510 (k_gc wd_511 (k_gc wd_512 (k_gc wd_513 (k_gc wd_514 (k_gc wd_515 (k_gc wd_516 (k_gc wd_517 (k_gc wd_518 (k_gc wd_519 (k_gc wd_520 (k_gc wd_651 (k_gc wd_652 (k_gc wd_653 (k_gc wd_654 (k_gc wd_602 (k_gc wd_603 (k_gc wd_604 (k_gc wd_605 (k_gc wd_606 (k_gc wd_607 k_gn)))))))))))))))))))))))
theorem gp_wsX11_differs_r3 : GoodIn lw_tbl wsX11_differs_r3 := k_gc wd_608 (k_gc wd_609 (k_gc wd_524 (k_gc wd_525 (k_gc wd_526 (k_gc wd_655 (k_gc wd_623 (k_gc wd_624 (k_gc wd_656 (k_gc wd_329 (k_gc wd_330 (k_gc wd_331 (k_gc wd_332 k_gn))))))))))))
theorem gp_wsX11_differs : GoodIn lw_tbl wsX11_differs := k_gc wd_1085 (goodIn_app (goodIn_app (goodIn_app (gp_wsX11_differs_r1) (goodIn_app (gp_wsX11_differs_r2) (gp_wsX11_differs_r3))) (k_G_wsX110)) (k_G_wsX90))
theorem wd_1086 : kG (Cond.methodLink RL 161 yX11_differs) := ⟨tk_4 _ (List.mem_of_getElem? (i := 144) (by decide +kernel)), Or.inl rfl⟩
theorem wd_1087 : kG (Cond.instanceMethod yX11_differs) := ⟨tk_4 _ (List.mem_of_getElem? (i := 145) (by decide +kernel)), Or.inl rfl⟩
theorem wd_1088 : kG (Cond.selects RX11 yX11_differs yX11_differs) := ⟨tk_4 _ (List.mem_of_getElem? (i := 146) (by decide +kernel)), Or.inl rfl⟩
theorem wd_1089 : kG (Cond.code yX13_differs cX13_differs 6 (some .int)) := ⟨tk_7 _ (List.mem_of_getElem? (i := 157) (by decide +kernel)), Or.inl rfl⟩
theorem gp_wsX13_differs_r1 : GoodIn lw_tbl wsX13_differs_r1 := k_gc wd_117 (k_gc wd_542 (k_gc wd_543 (k_gc wd_544 (k_gc wd_122 (k_gc wd_545 (k_gc wd_347 (k_gc wd_350 (k_gc wd_351 (k_gc wd_352 (k_gc wd_353 (k_gc wd_345 (k_gc wd_90 (k_gc wd_550 (k_gc wd_551 (k_gc wd_552 (k_gc wd_553 (k_gc wd_92 (k_gc wd_546 (k_gc wd_547 (k_gc wd_548 (k_gc wd_549 (k_gc wd_554 (k_gc wd_555 k_gn)))))))))))))))))))))))
theorem gp_wsX13_differs_r2 : GoodIn lw_tbl wsX13_differs_r2 := k_gc wd_556 (k_gc wd_557 (k_gc wd_558 (k_gc wd_559 (k_gc wd_560 (k_gc wd_561 (k_gc wd_562 (k_gc wd_661 (k_gc wd_662 (k_gc wd_663 (k_gc wd_664 (k_gc wd_95 (k_gc wd_614 (k_gc wd_615 (k_gc wd_616 (k_gc wd_617 (k_gc wd_578 (k_gc wd_579 (k_gc wd_580 (k_gc wd_477 (k_gc wd_478 (k_gc wd_479 (k_gc wd_480 k_gn))))))))))))))))))))))
theorem gp_wsX13_differs : GoodIn lw_tbl wsX13_differs := k_gc wd_1089 (goodIn_app (goodIn_app (goodIn_app (gp_wsX13_differs_r1) (gp_wsX13_differs_r2)) (k_G_wsX130)) (k_G_wsX120))
theorem wd_1090 : kG (Cond.methodLink RL 164 yX13_differs) := ⟨tk_7 _ (List.mem_of_getElem? (i := 154) (by decide +kernel)), Or.inl rfl⟩
theorem wd_1091 : kG (Cond.instanceMethod yX13_differs) := ⟨tk_7 _ (List.mem_of_getElem? (i := 155) (by decide +kernel)), Or.inl rfl⟩
theorem wd_1092 : kG (Cond.selects RX13 yX13_differs yX13_differs) := ⟨tk_7 _ (List.mem_of_getElem? (i := 156) (by decide +kernel)), Or.inl rfl⟩
theorem wd_1093 : kG (Cond.code yX11_fits cX11_fits 1 (some .int)) := ⟨tk_4 _ (List.mem_of_getElem? (i := 151) (by decide +kernel)), Or.inl rfl⟩
theorem wd_1094 : kG (Cond.methodLink RX11 247 yX1_of) := ⟨tk_4 _ (List.mem_of_getElem? (i := 152) (by decide +kernel)), Or.inl rfl⟩
theorem wd_1095 : kG (Cond.static yX1_of) := ⟨tk_4 _ (List.mem_of_getElem? (i := 153) (by decide +kernel)), Or.inl rfl⟩
theorem wd_1096 : kG (Cond.initialized RX1) := ⟨tk_1 _ (List.mem_of_getElem? (i := 19) (by decide +kernel)), Or.inl rfl⟩
theorem wd_1097 : kG (Cond.code yX1_of cX1_of 3 (some .int)) := ⟨tk_4 _ (List.mem_of_getElem? (i := 154) (by decide +kernel)), Or.inl rfl⟩
theorem wd_1098 : kG (Cond.methodLink RX1 15 yX1_areAllSo) := ⟨tk_4 _ (List.mem_of_getElem? (i := 155) (by decide +kernel)), Or.inl rfl⟩
theorem wd_1099 : kG (Cond.static yX1_areAllSo) := ⟨tk_4 _ (List.mem_of_getElem? (i := 156) (by decide +kernel)), Or.inl rfl⟩
theorem wd_1100 : kG (Cond.code yX1_areAllSo cX1_areAllSo 3 (some .boolean)) := ⟨tk_4 _ (List.mem_of_getElem? (i := 157) (by decide +kernel)), Or.inl rfl⟩
theorem wd_1101 : kG (Cond.methodLink RX1 24 yX1_isSo) := ⟨tk_4 _ (List.mem_of_getElem? (i := 158) (by decide +kernel)), Or.inl rfl⟩
theorem wd_1102 : kG (Cond.static yX1_isSo) := ⟨tk_4 _ (List.mem_of_getElem? (i := 159) (by decide +kernel)), Or.inl rfl⟩
theorem wd_1103 : kG (Cond.code yX1_isSo cX1_isSo 6 (some .boolean)) := ⟨tk_4 _ (List.mem_of_getElem? (i := 160) (by decide +kernel)), Or.inl rfl⟩
theorem wd_1104 : kG (Cond.methodLink RX1 40 yX9_steps) := ⟨tk_4 _ (List.mem_of_getElem? (i := 162) (by decide +kernel)), Or.inl rfl⟩
theorem gp_wsX11_fits_r1 : GoodIn lw_tbl wsX11_fits_r1 := k_gc wd_35 (k_gc wd_126 (k_gc wd_127 (k_gc wd_128 (k_gc wd_115 (k_gc wd_129 (k_gc wd_130 (k_gc wd_1094 (k_gc wd_1095 (k_gc wd_1096 (k_gc wd_1097 (k_gc wd_1098 (k_gc wd_1099 (k_gc wd_1100 (k_gc wd_1101 (k_gc wd_1102 (k_gc wd_1103 (k_gc wd_296 (k_gc wd_297 (k_gc wd_1104 (k_gc wd_299 (k_gc wd_300 (k_gc wd_14 (k_gc wd_301 k_gn)))))))))))))))))))))))
theorem wd_1105 : kG (Cond.methodLink RX1 46 yX1_rowWith) := ⟨tk_4 _ (List.mem_of_getElem? (i := 163) (by decide +kernel)), Or.inl rfl⟩
theorem wd_1106 : kG (Cond.static yX1_rowWith) := ⟨tk_4 _ (List.mem_of_getElem? (i := 164) (by decide +kernel)), Or.inl rfl⟩
theorem wd_1107 : kG (Cond.code yX1_rowWith cX1_rowWith 6 (some .int)) := ⟨tk_4 _ (List.mem_of_getElem? (i := 165) (by decide +kernel)), Or.inl rfl⟩
theorem wd_1108 : kG (Cond.methodLink RX1 62 yX9_row) := ⟨tk_4 _ (List.mem_of_getElem? (i := 166) (by decide +kernel)), Or.inl rfl⟩
theorem wd_1109 : kG (Cond.methodLink RX1 65 yX1_has) := ⟨tk_4 _ (List.mem_of_getElem? (i := 167) (by decide +kernel)), Or.inl rfl⟩
theorem wd_1110 : kG (Cond.static yX1_has) := ⟨tk_4 _ (List.mem_of_getElem? (i := 168) (by decide +kernel)), Or.inl rfl⟩
theorem wd_1111 : kG (Cond.code yX1_has cX1_has 2 (some .boolean)) := ⟨tk_4 _ (List.mem_of_getElem? (i := 169) (by decide +kernel)), Or.inl rfl⟩
theorem wd_1112 : kG (Cond.methodLink RX1 75 yX8_bit) := ⟨tk_4 _ (List.mem_of_getElem? (i := 170) (by decide +kernel)), Or.inl rfl⟩
theorem wd_1113 : kG (Cond.methodLink RX1 53 yX8_layersAlike) := ⟨tk_4 _ (List.mem_of_getElem? (i := 171) (by decide +kernel)), Or.inl rfl⟩
theorem gp_wsX11_fits_r2 : GoodIn lw_tbl wsX11_fits_r2 := k_gc wd_52 (k_gc wd_1105 (k_gc wd_1106 (k_gc wd_1107 (k_gc wd_1108 (k_gc wd_324 (k_gc wd_325 (k_gc wd_326 (k_gc wd_51 (k_gc wd_1109 (k_gc wd_1110 (k_gc wd_1111 (k_gc wd_1112 (k_gc wd_963 (k_gc wd_509 (k_gc wd_964 (k_gc wd_1113 (k_gc wd_652 (k_gc wd_653 (k_gc wd_654 (k_gc wd_602 (k_gc wd_603 (k_gc wd_604 (k_gc wd_605 k_gn)))))))))))))))))))))))
theorem wd_1114 : kG (Cond.methodLink RX11 253 yJ6_bitCount_0f7a4) := ⟨tk_4 _ (List.mem_of_getElem? (i := 172) (by decide +kernel)), Or.inl rfl⟩
theorem gp_wsX11_fits_r3 : GoodIn lw_tbl wsX11_fits_r3 := k_gc wd_606 (k_gc wd_607 (k_gc wd_608 (k_gc wd_609 (k_gc wd_524 (k_gc wd_525 (k_gc wd_526 (k_gc wd_655 (k_gc wd_623 (k_gc wd_624 (k_gc wd_656 (k_gc wd_508 (k_gc wd_510 (k_gc wd_511 (k_gc wd_512 (k_gc wd_513 (k_gc wd_514 (k_gc wd_515 (k_gc wd_516 (k_gc wd_517 (k_gc wd_518 (k_gc wd_519 (k_gc wd_520 (k_gc wd_1114 k_gn)))))))))))))))))))))))
theorem gp_wsX11_fits_r4 : GoodIn lw_tbl wsX11_fits_r4 := k_gc wd_329 (k_gc wd_330 (k_gc wd_331 (k_gc wd_332 k_gn)))
theorem gp_wsX11_fits : GoodIn lw_tbl wsX11_fits := k_gc wd_1093 (goodIn_app (goodIn_app (goodIn_app (goodIn_app (gp_wsX11_fits_r1) (goodIn_app (gp_wsX11_fits_r2) (goodIn_app (gp_wsX11_fits_r3) (gp_wsX11_fits_r4)))) (k_G_wsX110)) (k_G_wsX40)) (k_G_wsX90))
theorem wd_1115 : kG (Cond.methodLink RL 165 yX11_fits) := ⟨tk_4 _ (List.mem_of_getElem? (i := 148) (by decide +kernel)), Or.inl rfl⟩
theorem wd_1116 : kG (Cond.instanceMethod yX11_fits) := ⟨tk_4 _ (List.mem_of_getElem? (i := 149) (by decide +kernel)), Or.inl rfl⟩
theorem wd_1117 : kG (Cond.selects RX11 yX11_fits yX11_fits) := ⟨tk_4 _ (List.mem_of_getElem? (i := 150) (by decide +kernel)), Or.inl rfl⟩
theorem wd_1118 : kG (Cond.code yX13_fits cX13_fits 1 (some .int)) := ⟨tk_8 _ (List.mem_of_getElem? (i := 36) (by decide +kernel)), Or.inl rfl⟩
theorem wd_1119 : kG (Cond.fieldLink RX13 399 "ClosePackingModel" "fitsNow" "I") := ⟨tk_5 _ (List.mem_of_getElem? (i := 216) (by decide +kernel)), Or.inl rfl⟩
theorem wd_1120 : kG (Cond.methodLink RX13 411 yX13_fitting) := ⟨tk_8 _ (List.mem_of_getElem? (i := 37) (by decide +kernel)), Or.inl rfl⟩
theorem wd_1121 : kG (Cond.instanceMethod yX13_fitting) := ⟨tk_8 _ (List.mem_of_getElem? (i := 39) (by decide +kernel)), Or.inl rfl⟩
theorem wd_1122 : kG (Cond.selects RX13 yX13_fitting yX13_fitting) := ⟨List.mem_of_getElem? (i := 69) (by decide +kernel), Or.inl rfl⟩
theorem wd_1123 : kG (Cond.code yX13_fitting cX13_fitting 5 (some .int)) := ⟨tk_8 _ (List.mem_of_getElem? (i := 40) (by decide +kernel)), Or.inl rfl⟩
theorem wd_1124 : kG (Cond.fieldLink RX13 402 "ClosePackingModel" "someNow" "I") := ⟨tk_5 _ (List.mem_of_getElem? (i := 217) (by decide +kernel)), Or.inl rfl⟩
theorem wd_1125 : kG (Cond.fieldLink RX13 405 "ClosePackingModel" "everyNow" "I") := ⟨tk_5 _ (List.mem_of_getElem? (i := 218) (by decide +kernel)), Or.inl rfl⟩
theorem wd_1126 : kG (Cond.methodLink RX13 408 yX13_wrongAgreed) := ⟨tk_8 _ (List.mem_of_getElem? (i := 41) (by decide +kernel)), Or.inl rfl⟩
theorem wd_1127 : kG (Cond.instanceMethod yX13_wrongAgreed) := ⟨tk_8 _ (List.mem_of_getElem? (i := 43) (by decide +kernel)), Or.inl rfl⟩
theorem wd_1128 : kG (Cond.selects RX13 yX13_wrongAgreed yX13_wrongAgreed) := ⟨List.mem_of_getElem? (i := 70) (by decide +kernel), Or.inl rfl⟩
theorem wd_1129 : kG (Cond.code yX13_wrongAgreed cX13_wrongAgreed 3 (some .int)) := ⟨tk_8 _ (List.mem_of_getElem? (i := 44) (by decide +kernel)), Or.inl rfl⟩
theorem wd_1130 : kG (Cond.methodLink RX13 396 yX13_rowBy) := ⟨tk_8 _ (List.mem_of_getElem? (i := 45) (by decide +kernel)), Or.inl rfl⟩
theorem wd_1131 : kG (Cond.instanceMethod yX13_rowBy) := ⟨tk_8 _ (List.mem_of_getElem? (i := 47) (by decide +kernel)), Or.inl rfl⟩
theorem wd_1132 : kG (Cond.selects RX13 yX13_rowBy yX13_rowBy) := ⟨List.mem_of_getElem? (i := 71) (by decide +kernel), Or.inl rfl⟩
theorem gp_wsX13_fits_r1 : GoodIn lw_tbl wsX13_fits_r1 := k_gc wd_117 (k_gc wd_347 (k_gc wd_1119 (k_gc wd_350 (k_gc wd_351 (k_gc wd_352 (k_gc wd_122 (k_gc wd_353 (k_gc wd_345 (k_gc wd_90 (k_gc wd_1120 (k_gc wd_1121 (k_gc wd_1122 (k_gc wd_1123 (k_gc wd_1124 (k_gc wd_1125 (k_gc wd_101 (k_gc wd_1126 (k_gc wd_1127 (k_gc wd_1128 (k_gc wd_1129 (k_gc wd_1130 (k_gc wd_1131 (k_gc wd_1132 k_gn)))))))))))))))))))))))
theorem wd_1133 : kG (Cond.code yX13_rowBy cX13_rowBy 5 (some .int)) := ⟨tk_8 _ (List.mem_of_getElem? (i := 48) (by decide +kernel)), Or.inl rfl⟩
theorem wd_1134 : kG (Cond.methodLink RX13 393 yX13_bit) := ⟨tk_8 _ (List.mem_of_getElem? (i := 49) (by decide +kernel)), Or.inl rfl⟩
theorem wd_1135 : kG (Cond.static yX13_bit) := ⟨tk_8 _ (List.mem_of_getElem? (i := 50) (by decide +kernel)), Or.inl rfl⟩
theorem wd_1136 : kG (Cond.code yX13_bit cX13_bit 2 (some .boolean)) := ⟨tk_8 _ (List.mem_of_getElem? (i := 51) (by decide +kernel)), Or.inl rfl⟩
theorem gp_wsX13_fits_r2 : GoodIn lw_tbl wsX13_fits_r2 := k_gc wd_1133 (k_gc wd_1134 (k_gc wd_1135 (k_gc wd_1136 (k_gc wd_969 (k_gc wd_970 (k_gc wd_971 (k_gc wd_661 (k_gc wd_662 (k_gc wd_663 (k_gc wd_664 (k_gc wd_95 (k_gc wd_614 (k_gc wd_615 (k_gc wd_616 (k_gc wd_617 (k_gc wd_554 (k_gc wd_555 (k_gc wd_556 (k_gc wd_557 (k_gc wd_558 (k_gc wd_559 (k_gc wd_560 (k_gc wd_561 k_gn)))))))))))))))))))))))
theorem gp_wsX13_fits_r3 : GoodIn lw_tbl wsX13_fits_r3 := k_gc wd_562 (k_gc wd_578 (k_gc wd_579 (k_gc wd_580 (k_gc wd_477 (k_gc wd_478 (k_gc wd_479 (k_gc wd_480 k_gn)))))))
theorem gp_wsX13_fits : GoodIn lw_tbl wsX13_fits := k_gc wd_1118 (goodIn_app (goodIn_app (goodIn_app (gp_wsX13_fits_r1) (goodIn_app (gp_wsX13_fits_r2) (gp_wsX13_fits_r3))) (k_G_wsX130)) (k_G_wsX120))
theorem wd_1137 : kG (Cond.methodLink RL 168 yX13_fits) := ⟨tk_8 _ (List.mem_of_getElem? (i := 33) (by decide +kernel)), Or.inl rfl⟩
theorem wd_1138 : kG (Cond.instanceMethod yX13_fits) := ⟨tk_8 _ (List.mem_of_getElem? (i := 34) (by decide +kernel)), Or.inl rfl⟩
theorem wd_1139 : kG (Cond.selects RX13 yX13_fits yX13_fits) := ⟨tk_8 _ (List.mem_of_getElem? (i := 35) (by decide +kernel)), Or.inl rfl⟩
theorem wd_1140 : kG (Cond.code yX11_fitAt cX11_fitAt 3 (some .int)) := ⟨tk_4 _ (List.mem_of_getElem? (i := 176) (by decide +kernel)), Or.inl rfl⟩
theorem gp_wsX11_fitAt_r1 : GoodIn lw_tbl wsX11_fitAt_r1 := k_gc wd_35 (k_gc wd_126 (k_gc wd_127 (k_gc wd_128 (k_gc wd_115 (k_gc wd_129 (k_gc wd_130 (k_gc wd_1094 (k_gc wd_1095 (k_gc wd_1096 (k_gc wd_1097 (k_gc wd_1098 (k_gc wd_1099 (k_gc wd_1100 (k_gc wd_1101 (k_gc wd_1102 (k_gc wd_1103 (k_gc wd_296 (k_gc wd_297 (k_gc wd_1104 (k_gc wd_299 (k_gc wd_300 (k_gc wd_14 (k_gc wd_301 k_gn)))))))))))))))))))))))
theorem gp_wsX11_fitAt_r2 : GoodIn lw_tbl wsX11_fitAt_r2 := k_gc wd_52 (k_gc wd_1105 (k_gc wd_1106 (k_gc wd_1107 (k_gc wd_1108 (k_gc wd_324 (k_gc wd_325 (k_gc wd_326 (k_gc wd_51 (k_gc wd_1109 (k_gc wd_1110 (k_gc wd_1111 (k_gc wd_1112 (k_gc wd_963 (k_gc wd_509 (k_gc wd_964 (k_gc wd_1113 (k_gc wd_652 (k_gc wd_653 (k_gc wd_654 (k_gc wd_602 (k_gc wd_603 (k_gc wd_604 (k_gc wd_605 k_gn)))))))))))))))))))))))
theorem wd_1141 : kG (Cond.methodLink RX11 258 yX1_setAt) := ⟨tk_4 _ (List.mem_of_getElem? (i := 177) (by decide +kernel)), Or.inl rfl⟩
theorem gp_wsX11_fitAt_r3 : GoodIn lw_tbl wsX11_fitAt_r3 := k_gc wd_606 (k_gc wd_607 (k_gc wd_608 (k_gc wd_609 (k_gc wd_524 (k_gc wd_525 (k_gc wd_526 (k_gc wd_655 (k_gc wd_623 (k_gc wd_624 (k_gc wd_656 (k_gc wd_508 (k_gc wd_510 (k_gc wd_511 (k_gc wd_512 (k_gc wd_513 (k_gc wd_514 (k_gc wd_515 (k_gc wd_516 (k_gc wd_517 (k_gc wd_518 (k_gc wd_519 (k_gc wd_520 (k_gc wd_1141 k_gn)))))))))))))))))))))))
theorem wd_1142 : kG (Cond.static yX1_setAt) := ⟨tk_4 _ (List.mem_of_getElem? (i := 178) (by decide +kernel)), Or.inl rfl⟩
theorem wd_1143 : kG (Cond.code yX1_setAt cX1_setAt 4 (some .int)) := ⟨tk_4 _ (List.mem_of_getElem? (i := 179) (by decide +kernel)), Or.inl rfl⟩
theorem gp_wsX11_fitAt_r4 : GoodIn lw_tbl wsX11_fitAt_r4 := k_gc wd_1142 (k_gc wd_1143 (k_gc wd_329 (k_gc wd_330 (k_gc wd_331 (k_gc wd_332 k_gn)))))
theorem gp_wsX11_fitAt : GoodIn lw_tbl wsX11_fitAt := k_gc wd_1140 (goodIn_app (goodIn_app (goodIn_app (goodIn_app (gp_wsX11_fitAt_r1) (goodIn_app (gp_wsX11_fitAt_r2) (goodIn_app (gp_wsX11_fitAt_r3) (gp_wsX11_fitAt_r4)))) (k_G_wsX110)) (k_G_wsX40)) (k_G_wsX90))
theorem wd_1144 : kG (Cond.methodLink RL 169 yX11_fitAt) := ⟨tk_4 _ (List.mem_of_getElem? (i := 173) (by decide +kernel)), Or.inl rfl⟩
theorem wd_1145 : kG (Cond.instanceMethod yX11_fitAt) := ⟨tk_4 _ (List.mem_of_getElem? (i := 174) (by decide +kernel)), Or.inl rfl⟩
theorem wd_1146 : kG (Cond.selects RX11 yX11_fitAt yX11_fitAt) := ⟨tk_4 _ (List.mem_of_getElem? (i := 175) (by decide +kernel)), Or.inl rfl⟩
theorem wd_1147 : kG (Cond.code yX13_fitAt cX13_fitAt 3 (some .int)) := ⟨tk_8 _ (List.mem_of_getElem? (i := 55) (by decide +kernel)), Or.inl rfl⟩
theorem gp_wsX13_fitAt_r1 : GoodIn lw_tbl wsX13_fitAt_r1 := k_gc wd_117 (k_gc wd_347 (k_gc wd_350 (k_gc wd_351 (k_gc wd_352 (k_gc wd_122 (k_gc wd_353 (k_gc wd_345 (k_gc wd_90 (k_gc wd_1120 (k_gc wd_1121 (k_gc wd_1122 (k_gc wd_1123 (k_gc wd_1119 (k_gc wd_1124 (k_gc wd_1125 (k_gc wd_101 (k_gc wd_1126 (k_gc wd_1127 (k_gc wd_1128 (k_gc wd_1129 (k_gc wd_1130 (k_gc wd_1131 (k_gc wd_1132 k_gn)))))))))))))))))))))))
theorem gp_wsX13_fitAt_r2 : GoodIn lw_tbl wsX13_fitAt_r2 := k_gc wd_1133 (k_gc wd_1134 (k_gc wd_1135 (k_gc wd_1136 (k_gc wd_969 (k_gc wd_970 (k_gc wd_971 (k_gc wd_661 (k_gc wd_662 (k_gc wd_663 (k_gc wd_664 (k_gc wd_95 (k_gc wd_614 (k_gc wd_615 (k_gc wd_616 (k_gc wd_617 (k_gc wd_554 (k_gc wd_555 (k_gc wd_556 (k_gc wd_557 (k_gc wd_558 (k_gc wd_559 (k_gc wd_560 (k_gc wd_561 k_gn)))))))))))))))))))))))
theorem gp_wsX13_fitAt_r3 : GoodIn lw_tbl wsX13_fitAt_r3 := k_gc wd_562 (k_gc wd_578 (k_gc wd_579 (k_gc wd_580 (k_gc wd_477 (k_gc wd_478 (k_gc wd_479 (k_gc wd_480 k_gn)))))))
theorem gp_wsX13_fitAt : GoodIn lw_tbl wsX13_fitAt := k_gc wd_1147 (goodIn_app (goodIn_app (goodIn_app (gp_wsX13_fitAt_r1) (goodIn_app (gp_wsX13_fitAt_r2) (gp_wsX13_fitAt_r3))) (k_G_wsX130)) (k_G_wsX120))
theorem wd_1148 : kG (Cond.methodLink RL 172 yX13_fitAt) := ⟨tk_8 _ (List.mem_of_getElem? (i := 52) (by decide +kernel)), Or.inl rfl⟩
theorem wd_1149 : kG (Cond.instanceMethod yX13_fitAt) := ⟨tk_8 _ (List.mem_of_getElem? (i := 53) (by decide +kernel)), Or.inl rfl⟩
theorem wd_1150 : kG (Cond.selects RX13 yX13_fitAt yX13_fitAt) := ⟨tk_8 _ (List.mem_of_getElem? (i := 54) (by decide +kernel)), Or.inl rfl⟩
theorem wd_1151 : kG (Cond.code yX11_could cX11_could 1 (some .int)) := ⟨tk_4 _ (List.mem_of_getElem? (i := 183) (by decide +kernel)), Or.inl rfl⟩
theorem gp_wsX11_could_r1 : GoodIn lw_tbl wsX11_could_r1 := k_gc wd_35 (k_gc wd_126 (k_gc wd_127 (k_gc wd_128 (k_gc wd_115 (k_gc wd_129 (k_gc wd_130 (k_gc wd_1094 (k_gc wd_1095 (k_gc wd_1096 (k_gc wd_1097 (k_gc wd_1098 (k_gc wd_1099 (k_gc wd_1100 (k_gc wd_1101 (k_gc wd_1102 (k_gc wd_1103 (k_gc wd_296 (k_gc wd_297 (k_gc wd_1104 (k_gc wd_299 (k_gc wd_300 (k_gc wd_14 (k_gc wd_301 k_gn)))))))))))))))))))))))
theorem gp_wsX11_could_r2 : GoodIn lw_tbl wsX11_could_r2 := k_gc wd_52 (k_gc wd_1105 (k_gc wd_1106 (k_gc wd_1107 (k_gc wd_1108 (k_gc wd_324 (k_gc wd_325 (k_gc wd_326 (k_gc wd_51 (k_gc wd_1109 (k_gc wd_1110 (k_gc wd_1111 (k_gc wd_1112 (k_gc wd_963 (k_gc wd_509 (k_gc wd_964 (k_gc wd_1113 (k_gc wd_652 (k_gc wd_653 (k_gc wd_654 (k_gc wd_602 (k_gc wd_603 (k_gc wd_604 (k_gc wd_605 k_gn)))))))))))))))))))))))
theorem wd_1152 : kG (Cond.methodLink RX11 261 yX1_inSome) := ⟨tk_4 _ (List.mem_of_getElem? (i := 184) (by decide +kernel)), Or.inl rfl⟩
theorem gp_wsX11_could_r3 : GoodIn lw_tbl wsX11_could_r3 := k_gc wd_606 (k_gc wd_607 (k_gc wd_608 (k_gc wd_609 (k_gc wd_524 (k_gc wd_525 (k_gc wd_526 (k_gc wd_655 (k_gc wd_623 (k_gc wd_624 (k_gc wd_656 (k_gc wd_508 (k_gc wd_510 (k_gc wd_511 (k_gc wd_512 (k_gc wd_513 (k_gc wd_514 (k_gc wd_515 (k_gc wd_516 (k_gc wd_517 (k_gc wd_518 (k_gc wd_519 (k_gc wd_520 (k_gc wd_1152 k_gn)))))))))))))))))))))))
theorem wd_1153 : kG (Cond.static yX1_inSome) := ⟨tk_4 _ (List.mem_of_getElem? (i := 185) (by decide +kernel)), Or.inl rfl⟩
theorem wd_1154 : kG (Cond.code yX1_inSome cX1_inSome 3 (some .int)) := ⟨tk_4 _ (List.mem_of_getElem? (i := 186) (by decide +kernel)), Or.inl rfl⟩
theorem gp_wsX11_could_r4 : GoodIn lw_tbl wsX11_could_r4 := k_gc wd_1153 (k_gc wd_1154 (k_gc wd_329 (k_gc wd_330 (k_gc wd_331 (k_gc wd_332 k_gn)))))
theorem gp_wsX11_could : GoodIn lw_tbl wsX11_could := k_gc wd_1151 (goodIn_app (goodIn_app (goodIn_app (goodIn_app (gp_wsX11_could_r1) (goodIn_app (gp_wsX11_could_r2) (goodIn_app (gp_wsX11_could_r3) (gp_wsX11_could_r4)))) (k_G_wsX110)) (k_G_wsX40)) (k_G_wsX90))
theorem wd_1155 : kG (Cond.methodLink RL 173 yX11_could) := ⟨tk_4 _ (List.mem_of_getElem? (i := 180) (by decide +kernel)), Or.inl rfl⟩
theorem wd_1156 : kG (Cond.instanceMethod yX11_could) := ⟨tk_4 _ (List.mem_of_getElem? (i := 181) (by decide +kernel)), Or.inl rfl⟩
theorem wd_1157 : kG (Cond.selects RX11 yX11_could yX11_could) := ⟨tk_4 _ (List.mem_of_getElem? (i := 182) (by decide +kernel)), Or.inl rfl⟩
theorem wd_1158 : kG (Cond.code yX13_could cX13_could 1 (some .int)) := ⟨tk_8 _ (List.mem_of_getElem? (i := 59) (by decide +kernel)), Or.inl rfl⟩
theorem gp_wsX13_could_r1 : GoodIn lw_tbl wsX13_could_r1 := k_gc wd_117 (k_gc wd_347 (k_gc wd_1124 (k_gc wd_350 (k_gc wd_351 (k_gc wd_352 (k_gc wd_122 (k_gc wd_353 (k_gc wd_345 (k_gc wd_90 (k_gc wd_1120 (k_gc wd_1121 (k_gc wd_1122 (k_gc wd_1123 (k_gc wd_1119 (k_gc wd_1125 (k_gc wd_101 (k_gc wd_1126 (k_gc wd_1127 (k_gc wd_1128 (k_gc wd_1129 (k_gc wd_1130 (k_gc wd_1131 (k_gc wd_1132 k_gn)))))))))))))))))))))))
theorem gp_wsX13_could_r2 : GoodIn lw_tbl wsX13_could_r2 := k_gc wd_1133 (k_gc wd_1134 (k_gc wd_1135 (k_gc wd_1136 (k_gc wd_969 (k_gc wd_970 (k_gc wd_971 (k_gc wd_661 (k_gc wd_662 (k_gc wd_663 (k_gc wd_664 (k_gc wd_95 (k_gc wd_614 (k_gc wd_615 (k_gc wd_616 (k_gc wd_617 (k_gc wd_554 (k_gc wd_555 (k_gc wd_556 (k_gc wd_557 (k_gc wd_558 (k_gc wd_559 (k_gc wd_560 (k_gc wd_561 k_gn)))))))))))))))))))))))
theorem gp_wsX13_could_r3 : GoodIn lw_tbl wsX13_could_r3 := k_gc wd_562 (k_gc wd_578 (k_gc wd_579 (k_gc wd_580 (k_gc wd_477 (k_gc wd_478 (k_gc wd_479 (k_gc wd_480 k_gn)))))))
theorem gp_wsX13_could : GoodIn lw_tbl wsX13_could := k_gc wd_1158 (goodIn_app (goodIn_app (goodIn_app (gp_wsX13_could_r1) (goodIn_app (gp_wsX13_could_r2) (gp_wsX13_could_r3))) (k_G_wsX130)) (k_G_wsX120))
theorem wd_1159 : kG (Cond.methodLink RL 176 yX13_could) := ⟨tk_8 _ (List.mem_of_getElem? (i := 56) (by decide +kernel)), Or.inl rfl⟩
theorem wd_1160 : kG (Cond.instanceMethod yX13_could) := ⟨tk_8 _ (List.mem_of_getElem? (i := 57) (by decide +kernel)), Or.inl rfl⟩
theorem wd_1161 : kG (Cond.selects RX13 yX13_could yX13_could) := ⟨tk_8 _ (List.mem_of_getElem? (i := 58) (by decide +kernel)), Or.inl rfl⟩
theorem wd_1162 : kG (Cond.code yX11_surely cX11_surely 1 (some .int)) := ⟨tk_4 _ (List.mem_of_getElem? (i := 190) (by decide +kernel)), Or.inl rfl⟩
theorem gp_wsX11_surely_r1 : GoodIn lw_tbl wsX11_surely_r1 := k_gc wd_35 (k_gc wd_126 (k_gc wd_127 (k_gc wd_128 (k_gc wd_115 (k_gc wd_129 (k_gc wd_130 (k_gc wd_1094 (k_gc wd_1095 (k_gc wd_1096 (k_gc wd_1097 (k_gc wd_1098 (k_gc wd_1099 (k_gc wd_1100 (k_gc wd_1101 (k_gc wd_1102 (k_gc wd_1103 (k_gc wd_296 (k_gc wd_297 (k_gc wd_1104 (k_gc wd_299 (k_gc wd_300 (k_gc wd_14 (k_gc wd_301 k_gn)))))))))))))))))))))))
theorem gp_wsX11_surely_r2 : GoodIn lw_tbl wsX11_surely_r2 := k_gc wd_52 (k_gc wd_1105 (k_gc wd_1106 (k_gc wd_1107 (k_gc wd_1108 (k_gc wd_324 (k_gc wd_325 (k_gc wd_326 (k_gc wd_51 (k_gc wd_1109 (k_gc wd_1110 (k_gc wd_1111 (k_gc wd_1112 (k_gc wd_963 (k_gc wd_509 (k_gc wd_964 (k_gc wd_1113 (k_gc wd_652 (k_gc wd_653 (k_gc wd_654 (k_gc wd_602 (k_gc wd_603 (k_gc wd_604 (k_gc wd_605 k_gn)))))))))))))))))))))))
theorem wd_1163 : kG (Cond.methodLink RX11 264 yX1_inAll) := ⟨tk_4 _ (List.mem_of_getElem? (i := 191) (by decide +kernel)), Or.inl rfl⟩
theorem gp_wsX11_surely_r3 : GoodIn lw_tbl wsX11_surely_r3 := k_gc wd_606 (k_gc wd_607 (k_gc wd_608 (k_gc wd_609 (k_gc wd_524 (k_gc wd_525 (k_gc wd_526 (k_gc wd_655 (k_gc wd_623 (k_gc wd_624 (k_gc wd_656 (k_gc wd_508 (k_gc wd_510 (k_gc wd_511 (k_gc wd_512 (k_gc wd_513 (k_gc wd_514 (k_gc wd_515 (k_gc wd_516 (k_gc wd_517 (k_gc wd_518 (k_gc wd_519 (k_gc wd_520 (k_gc wd_1163 k_gn)))))))))))))))))))))))
theorem wd_1164 : kG (Cond.static yX1_inAll) := ⟨tk_4 _ (List.mem_of_getElem? (i := 192) (by decide +kernel)), Or.inl rfl⟩
theorem wd_1165 : kG (Cond.code yX1_inAll cX1_inAll 3 (some .int)) := ⟨tk_4 _ (List.mem_of_getElem? (i := 193) (by decide +kernel)), Or.inl rfl⟩
theorem gp_wsX11_surely_r4 : GoodIn lw_tbl wsX11_surely_r4 := k_gc wd_1164 (k_gc wd_1165 (k_gc wd_329 (k_gc wd_330 (k_gc wd_331 (k_gc wd_332 k_gn)))))
theorem gp_wsX11_surely : GoodIn lw_tbl wsX11_surely := k_gc wd_1162 (goodIn_app (goodIn_app (goodIn_app (goodIn_app (gp_wsX11_surely_r1) (goodIn_app (gp_wsX11_surely_r2) (goodIn_app (gp_wsX11_surely_r3) (gp_wsX11_surely_r4)))) (k_G_wsX110)) (k_G_wsX40)) (k_G_wsX90))
theorem wd_1166 : kG (Cond.methodLink RL 177 yX11_surely) := ⟨tk_4 _ (List.mem_of_getElem? (i := 187) (by decide +kernel)), Or.inl rfl⟩
theorem wd_1167 : kG (Cond.instanceMethod yX11_surely) := ⟨tk_4 _ (List.mem_of_getElem? (i := 188) (by decide +kernel)), Or.inl rfl⟩
theorem wd_1168 : kG (Cond.selects RX11 yX11_surely yX11_surely) := ⟨tk_4 _ (List.mem_of_getElem? (i := 189) (by decide +kernel)), Or.inl rfl⟩
theorem wd_1169 : kG (Cond.code yX13_surely cX13_surely 1 (some .int)) := ⟨tk_8 _ (List.mem_of_getElem? (i := 63) (by decide +kernel)), Or.inl rfl⟩
theorem gp_wsX13_surely_r1 : GoodIn lw_tbl wsX13_surely_r1 := k_gc wd_117 (k_gc wd_347 (k_gc wd_1125 (k_gc wd_350 (k_gc wd_351 (k_gc wd_352 (k_gc wd_122 (k_gc wd_353 (k_gc wd_345 (k_gc wd_90 (k_gc wd_1120 (k_gc wd_1121 (k_gc wd_1122 (k_gc wd_1123 (k_gc wd_1119 (k_gc wd_1124 (k_gc wd_101 (k_gc wd_1126 (k_gc wd_1127 (k_gc wd_1128 (k_gc wd_1129 (k_gc wd_1130 (k_gc wd_1131 (k_gc wd_1132 k_gn)))))))))))))))))))))))
theorem gp_wsX13_surely_r2 : GoodIn lw_tbl wsX13_surely_r2 := k_gc wd_1133 (k_gc wd_1134 (k_gc wd_1135 (k_gc wd_1136 (k_gc wd_969 (k_gc wd_970 (k_gc wd_971 (k_gc wd_661 (k_gc wd_662 (k_gc wd_663 (k_gc wd_664 (k_gc wd_95 (k_gc wd_614 (k_gc wd_615 (k_gc wd_616 (k_gc wd_617 (k_gc wd_554 (k_gc wd_555 (k_gc wd_556 (k_gc wd_557 (k_gc wd_558 (k_gc wd_559 (k_gc wd_560 (k_gc wd_561 k_gn)))))))))))))))))))))))
theorem gp_wsX13_surely_r3 : GoodIn lw_tbl wsX13_surely_r3 := k_gc wd_562 (k_gc wd_578 (k_gc wd_579 (k_gc wd_580 (k_gc wd_477 (k_gc wd_478 (k_gc wd_479 (k_gc wd_480 k_gn)))))))
theorem gp_wsX13_surely : GoodIn lw_tbl wsX13_surely := k_gc wd_1169 (goodIn_app (goodIn_app (goodIn_app (gp_wsX13_surely_r1) (goodIn_app (gp_wsX13_surely_r2) (gp_wsX13_surely_r3))) (k_G_wsX130)) (k_G_wsX120))
theorem wd_1170 : kG (Cond.methodLink RL 180 yX13_surely) := ⟨tk_8 _ (List.mem_of_getElem? (i := 60) (by decide +kernel)), Or.inl rfl⟩
theorem wd_1171 : kG (Cond.instanceMethod yX13_surely) := ⟨tk_8 _ (List.mem_of_getElem? (i := 61) (by decide +kernel)), Or.inl rfl⟩
theorem wd_1172 : kG (Cond.selects RX13 yX13_surely yX13_surely) := ⟨tk_8 _ (List.mem_of_getElem? (i := 62) (by decide +kernel)), Or.inl rfl⟩
theorem wd_1173 : kG (Cond.code yX11_ask cX11_ask 1 (some .int)) := ⟨tk_4 _ (List.mem_of_getElem? (i := 197) (by decide +kernel)), Or.inl rfl⟩
theorem gp_wsX11_ask_r1 : GoodIn lw_tbl wsX11_ask_r1 := k_gc wd_35 (k_gc wd_126 (k_gc wd_127 (k_gc wd_128 (k_gc wd_115 (k_gc wd_129 (k_gc wd_130 (k_gc wd_1094 (k_gc wd_1095 (k_gc wd_1096 (k_gc wd_1097 (k_gc wd_1098 (k_gc wd_1099 (k_gc wd_1100 (k_gc wd_1101 (k_gc wd_1102 (k_gc wd_1103 (k_gc wd_296 (k_gc wd_297 (k_gc wd_1104 (k_gc wd_299 (k_gc wd_300 (k_gc wd_14 (k_gc wd_301 k_gn)))))))))))))))))))))))
theorem gp_wsX11_ask_r2 : GoodIn lw_tbl wsX11_ask_r2 := k_gc wd_52 (k_gc wd_1105 (k_gc wd_1106 (k_gc wd_1107 (k_gc wd_1108 (k_gc wd_324 (k_gc wd_325 (k_gc wd_326 (k_gc wd_51 (k_gc wd_1109 (k_gc wd_1110 (k_gc wd_1111 (k_gc wd_1112 (k_gc wd_963 (k_gc wd_509 (k_gc wd_964 (k_gc wd_1113 (k_gc wd_652 (k_gc wd_653 (k_gc wd_654 (k_gc wd_602 (k_gc wd_603 (k_gc wd_604 (k_gc wd_605 k_gn)))))))))))))))))))))))
theorem wd_1174 : kG (Cond.methodLink RX11 270 yX1_bestQuestion) := ⟨tk_4 _ (List.mem_of_getElem? (i := 198) (by decide +kernel)), Or.inl rfl⟩
theorem gp_wsX11_ask_r3 : GoodIn lw_tbl wsX11_ask_r3 := k_gc wd_606 (k_gc wd_607 (k_gc wd_608 (k_gc wd_609 (k_gc wd_524 (k_gc wd_525 (k_gc wd_526 (k_gc wd_655 (k_gc wd_623 (k_gc wd_624 (k_gc wd_656 (k_gc wd_508 (k_gc wd_510 (k_gc wd_511 (k_gc wd_512 (k_gc wd_513 (k_gc wd_514 (k_gc wd_515 (k_gc wd_516 (k_gc wd_517 (k_gc wd_518 (k_gc wd_519 (k_gc wd_520 (k_gc wd_1174 k_gn)))))))))))))))))))))))
theorem wd_1175 : kG (Cond.static yX1_bestQuestion) := ⟨tk_4 _ (List.mem_of_getElem? (i := 199) (by decide +kernel)), Or.inl rfl⟩
theorem wd_1176 : kG (Cond.code yX1_bestQuestion cX1_bestQuestion 4 (some .int)) := ⟨tk_4 _ (List.mem_of_getElem? (i := 200) (by decide +kernel)), Or.inl rfl⟩
theorem wd_1177 : kG (Cond.methodLink RX1 89 yX1_mostLeft) := ⟨tk_4 _ (List.mem_of_getElem? (i := 201) (by decide +kernel)), Or.inl rfl⟩
theorem wd_1178 : kG (Cond.static yX1_mostLeft) := ⟨tk_4 _ (List.mem_of_getElem? (i := 202) (by decide +kernel)), Or.inl rfl⟩
theorem wd_1179 : kG (Cond.code yX1_mostLeft cX1_mostLeft 4 (some .int)) := ⟨tk_4 _ (List.mem_of_getElem? (i := 203) (by decide +kernel)), Or.inl rfl⟩
theorem wd_1180 : kG (Cond.methodLink RX1 84 Lib.Math.max.name) := ⟨tk_4 _ (List.mem_of_getElem? (i := 205) (by decide +kernel)), Or.inl rfl⟩
theorem wd_1181 : kG (Cond.methodLink RX1 79 yJ6_bitCount_0f7a4) := ⟨tk_4 _ (List.mem_of_getElem? (i := 204) (by decide +kernel)), Or.inl rfl⟩
theorem gp_wsX11_ask_r4 : GoodIn lw_tbl wsX11_ask_r4 := k_gc wd_1175 (k_gc wd_1176 (k_gc wd_1177 (k_gc wd_1178 (k_gc wd_1179 (k_gc wd_1180 (k_gc wd_534 (k_gc wd_535 (k_gc wd_536 (k_gc wd_1181 (k_gc wd_329 (k_gc wd_330 (k_gc wd_331 (k_gc wd_332 k_gn)))))))))))))
theorem gp_wsX11_ask : GoodIn lw_tbl wsX11_ask := k_gc wd_1173 (goodIn_app (goodIn_app (goodIn_app (goodIn_app (gp_wsX11_ask_r1) (goodIn_app (gp_wsX11_ask_r2) (goodIn_app (gp_wsX11_ask_r3) (gp_wsX11_ask_r4)))) (k_G_wsX110)) (k_G_wsX40)) (k_G_wsX90))
theorem wd_1182 : kG (Cond.methodLink RL 181 yX11_ask) := ⟨tk_4 _ (List.mem_of_getElem? (i := 194) (by decide +kernel)), Or.inl rfl⟩
theorem wd_1183 : kG (Cond.instanceMethod yX11_ask) := ⟨tk_4 _ (List.mem_of_getElem? (i := 195) (by decide +kernel)), Or.inl rfl⟩
theorem wd_1184 : kG (Cond.selects RX11 yX11_ask yX11_ask) := ⟨tk_4 _ (List.mem_of_getElem? (i := 196) (by decide +kernel)), Or.inl rfl⟩
theorem wd_1185 : kG (Cond.code yX13_ask cX13_ask 1 (some .int)) := ⟨tk_8 _ (List.mem_of_getElem? (i := 67) (by decide +kernel)), Or.inl rfl⟩
theorem wd_1186 : kG (Cond.methodLink RX13 417 yX13_asks) := ⟨tk_8 _ (List.mem_of_getElem? (i := 68) (by decide +kernel)), Or.inl rfl⟩
theorem wd_1187 : kG (Cond.instanceMethod yX13_asks) := ⟨tk_8 _ (List.mem_of_getElem? (i := 70) (by decide +kernel)), Or.inl rfl⟩
theorem wd_1188 : kG (Cond.selects RX13 yX13_asks yX13_asks) := ⟨List.mem_of_getElem? (i := 72) (by decide +kernel), Or.inl rfl⟩
theorem wd_1189 : kG (Cond.code yX13_asks cX13_asks 4 (some .int)) := ⟨tk_8 _ (List.mem_of_getElem? (i := 71) (by decide +kernel)), Or.inl rfl⟩
theorem wd_1190 : kG (Cond.fieldLink RX13 414 "ClosePackingModel" "askLeft" "I") := ⟨tk_5 _ (List.mem_of_getElem? (i := 220) (by decide +kernel)), Or.inl rfl⟩
theorem gp_wsX13_ask_r1 : GoodIn lw_tbl wsX13_ask_r1 := k_gc wd_117 (k_gc wd_347 (k_gc wd_350 (k_gc wd_351 (k_gc wd_352 (k_gc wd_122 (k_gc wd_353 (k_gc wd_345 (k_gc wd_90 (k_gc wd_1186 (k_gc wd_1187 (k_gc wd_1188 (k_gc wd_1189 (k_gc wd_1190 (k_gc wd_1119 (k_gc wd_101 (k_gc wd_1120 (k_gc wd_1121 (k_gc wd_1122 (k_gc wd_1123 (k_gc wd_1124 (k_gc wd_1125 (k_gc wd_1126 (k_gc wd_1127 k_gn)))))))))))))))))))))))
theorem gp_wsX13_ask_r2 : GoodIn lw_tbl wsX13_ask_r2 := k_gc wd_1128 (k_gc wd_1129 (k_gc wd_1130 (k_gc wd_1131 (k_gc wd_1132 (k_gc wd_1133 (k_gc wd_1134 (k_gc wd_1135 (k_gc wd_1136 (k_gc wd_969 (k_gc wd_970 (k_gc wd_971 (k_gc wd_661 (k_gc wd_662 (k_gc wd_663 (k_gc wd_664 (k_gc wd_95 (k_gc wd_614 (k_gc wd_615 (k_gc wd_616 (k_gc wd_617 (k_gc wd_554 (k_gc wd_555 (k_gc wd_556 k_gn)))))))))))))))))))))))
theorem gp_wsX13_ask_r3 : GoodIn lw_tbl wsX13_ask_r3 := k_gc wd_557 (k_gc wd_558 (k_gc wd_559 (k_gc wd_560 (k_gc wd_561 (k_gc wd_562 (k_gc wd_578 (k_gc wd_579 (k_gc wd_580 (k_gc wd_477 (k_gc wd_478 (k_gc wd_479 (k_gc wd_480 k_gn))))))))))))
theorem gp_wsX13_ask : GoodIn lw_tbl wsX13_ask := k_gc wd_1185 (goodIn_app (goodIn_app (goodIn_app (gp_wsX13_ask_r1) (goodIn_app (gp_wsX13_ask_r2) (gp_wsX13_ask_r3))) (k_G_wsX130)) (k_G_wsX120))
theorem wd_1191 : kG (Cond.methodLink RL 184 yX13_ask) := ⟨tk_8 _ (List.mem_of_getElem? (i := 64) (by decide +kernel)), Or.inl rfl⟩
theorem wd_1192 : kG (Cond.instanceMethod yX13_ask) := ⟨tk_8 _ (List.mem_of_getElem? (i := 65) (by decide +kernel)), Or.inl rfl⟩
theorem wd_1193 : kG (Cond.selects RX13 yX13_ask yX13_ask) := ⟨tk_8 _ (List.mem_of_getElem? (i := 66) (by decide +kernel)), Or.inl rfl⟩
theorem wd_1194 : kG (Cond.code yX11_askLeaves cX11_askLeaves 3 (some .int)) := ⟨tk_4 _ (List.mem_of_getElem? (i := 209) (by decide +kernel)), Or.inl rfl⟩
theorem gp_wsX11_askLeaves_r1 : GoodIn lw_tbl wsX11_askLeaves_r1 := k_gc wd_35 (k_gc wd_126 (k_gc wd_127 (k_gc wd_128 (k_gc wd_115 (k_gc wd_129 (k_gc wd_130 (k_gc wd_1094 (k_gc wd_1095 (k_gc wd_1096 (k_gc wd_1097 (k_gc wd_1098 (k_gc wd_1099 (k_gc wd_1100 (k_gc wd_1101 (k_gc wd_1102 (k_gc wd_1103 (k_gc wd_296 (k_gc wd_297 (k_gc wd_1104 (k_gc wd_299 (k_gc wd_300 (k_gc wd_14 (k_gc wd_301 k_gn)))))))))))))))))))))))
theorem gp_wsX11_askLeaves_r2 : GoodIn lw_tbl wsX11_askLeaves_r2 := k_gc wd_52 (k_gc wd_1105 (k_gc wd_1106 (k_gc wd_1107 (k_gc wd_1108 (k_gc wd_324 (k_gc wd_325 (k_gc wd_326 (k_gc wd_51 (k_gc wd_1109 (k_gc wd_1110 (k_gc wd_1111 (k_gc wd_1112 (k_gc wd_963 (k_gc wd_509 (k_gc wd_964 (k_gc wd_1113 (k_gc wd_652 (k_gc wd_653 (k_gc wd_654 (k_gc wd_602 (k_gc wd_603 (k_gc wd_604 (k_gc wd_605 k_gn)))))))))))))))))))))))
theorem gp_wsX11_askLeaves_r3 : GoodIn lw_tbl wsX11_askLeaves_r3 := k_gc wd_606 (k_gc wd_607 (k_gc wd_608 (k_gc wd_609 (k_gc wd_524 (k_gc wd_525 (k_gc wd_526 (k_gc wd_655 (k_gc wd_623 (k_gc wd_624 (k_gc wd_656 (k_gc wd_508 (k_gc wd_510 (k_gc wd_511 (k_gc wd_512 (k_gc wd_513 (k_gc wd_514 (k_gc wd_515 (k_gc wd_516 (k_gc wd_517 (k_gc wd_518 (k_gc wd_519 (k_gc wd_520 (k_gc wd_1174 k_gn)))))))))))))))))))))))
theorem wd_1195 : kG (Cond.methodLink RX11 273 yX1_mostLeft) := ⟨tk_4 _ (List.mem_of_getElem? (i := 210) (by decide +kernel)), Or.inl rfl⟩
theorem gp_wsX11_askLeaves_r4 : GoodIn lw_tbl wsX11_askLeaves_r4 := k_gc wd_1175 (k_gc wd_1176 (k_gc wd_1177 (k_gc wd_1178 (k_gc wd_1179 (k_gc wd_1180 (k_gc wd_534 (k_gc wd_535 (k_gc wd_536 (k_gc wd_1181 (k_gc wd_1195 (k_gc wd_329 (k_gc wd_330 (k_gc wd_331 (k_gc wd_332 k_gn))))))))))))))
theorem gp_wsX11_askLeaves : GoodIn lw_tbl wsX11_askLeaves := k_gc wd_1194 (goodIn_app (goodIn_app (goodIn_app (goodIn_app (gp_wsX11_askLeaves_r1) (goodIn_app (gp_wsX11_askLeaves_r2) (goodIn_app (gp_wsX11_askLeaves_r3) (gp_wsX11_askLeaves_r4)))) (k_G_wsX110)) (k_G_wsX40)) (k_G_wsX90))
theorem wd_1196 : kG (Cond.methodLink RL 185 yX11_askLeaves) := ⟨tk_4 _ (List.mem_of_getElem? (i := 206) (by decide +kernel)), Or.inl rfl⟩
theorem wd_1197 : kG (Cond.instanceMethod yX11_askLeaves) := ⟨tk_4 _ (List.mem_of_getElem? (i := 207) (by decide +kernel)), Or.inl rfl⟩
theorem wd_1198 : kG (Cond.selects RX11 yX11_askLeaves yX11_askLeaves) := ⟨tk_4 _ (List.mem_of_getElem? (i := 208) (by decide +kernel)), Or.inl rfl⟩
theorem wd_1199 : kG (Cond.code yX13_askLeaves cX13_askLeaves 1 (some .int)) := ⟨tk_8 _ (List.mem_of_getElem? (i := 75) (by decide +kernel)), Or.inl rfl⟩
theorem gp_wsX13_askLeaves_r1 : GoodIn lw_tbl wsX13_askLeaves_r1 := k_gc wd_117 (k_gc wd_347 (k_gc wd_1190 (k_gc wd_350 (k_gc wd_351 (k_gc wd_352 (k_gc wd_122 (k_gc wd_353 (k_gc wd_345 (k_gc wd_90 (k_gc wd_1186 (k_gc wd_1187 (k_gc wd_1188 (k_gc wd_1189 (k_gc wd_1119 (k_gc wd_101 (k_gc wd_1120 (k_gc wd_1121 (k_gc wd_1122 (k_gc wd_1123 (k_gc wd_1124 (k_gc wd_1125 (k_gc wd_1126 (k_gc wd_1127 k_gn)))))))))))))))))))))))
theorem gp_wsX13_askLeaves_r2 : GoodIn lw_tbl wsX13_askLeaves_r2 := k_gc wd_1128 (k_gc wd_1129 (k_gc wd_1130 (k_gc wd_1131 (k_gc wd_1132 (k_gc wd_1133 (k_gc wd_1134 (k_gc wd_1135 (k_gc wd_1136 (k_gc wd_969 (k_gc wd_970 (k_gc wd_971 (k_gc wd_661 (k_gc wd_662 (k_gc wd_663 (k_gc wd_664 (k_gc wd_95 (k_gc wd_614 (k_gc wd_615 (k_gc wd_616 (k_gc wd_617 (k_gc wd_554 (k_gc wd_555 (k_gc wd_556 k_gn)))))))))))))))))))))))
theorem gp_wsX13_askLeaves_r3 : GoodIn lw_tbl wsX13_askLeaves_r3 := k_gc wd_557 (k_gc wd_558 (k_gc wd_559 (k_gc wd_560 (k_gc wd_561 (k_gc wd_562 (k_gc wd_578 (k_gc wd_579 (k_gc wd_580 (k_gc wd_477 (k_gc wd_478 (k_gc wd_479 (k_gc wd_480 k_gn))))))))))))
theorem gp_wsX13_askLeaves : GoodIn lw_tbl wsX13_askLeaves := k_gc wd_1199 (goodIn_app (goodIn_app (goodIn_app (gp_wsX13_askLeaves_r1) (goodIn_app (gp_wsX13_askLeaves_r2) (gp_wsX13_askLeaves_r3))) (k_G_wsX130)) (k_G_wsX120))
theorem wd_1200 : kG (Cond.methodLink RL 188 yX13_askLeaves) := ⟨tk_8 _ (List.mem_of_getElem? (i := 72) (by decide +kernel)), Or.inl rfl⟩
theorem wd_1201 : kG (Cond.instanceMethod yX13_askLeaves) := ⟨tk_8 _ (List.mem_of_getElem? (i := 73) (by decide +kernel)), Or.inl rfl⟩
theorem wd_1202 : kG (Cond.selects RX13 yX13_askLeaves yX13_askLeaves) := ⟨tk_8 _ (List.mem_of_getElem? (i := 74) (by decide +kernel)), Or.inl rfl⟩
theorem wd_1203 : kG (Cond.code yX11_judge cX11_judge 2 (some .int)) := ⟨tk_4 _ (List.mem_of_getElem? (i := 214) (by decide +kernel)), Or.inl rfl⟩
theorem wd_1204 : kG (Cond.methodLink RX11 279 yX1_isSo) := ⟨tk_4 _ (List.mem_of_getElem? (i := 215) (by decide +kernel)), Or.inl rfl⟩
theorem gp_wsX11_judge_r1 : GoodIn lw_tbl wsX11_judge_r1 := k_gc wd_35 (k_gc wd_126 (k_gc wd_127 (k_gc wd_128 (k_gc wd_115 (k_gc wd_129 (k_gc wd_130 (k_gc wd_1204 (k_gc wd_1102 (k_gc wd_1096 (k_gc wd_1103 (k_gc wd_296 (k_gc wd_297 (k_gc wd_1104 (k_gc wd_299 (k_gc wd_300 (k_gc wd_14 (k_gc wd_301 (k_gc wd_52 (k_gc wd_1105 (k_gc wd_1106 (k_gc wd_1107 (k_gc wd_1108 (k_gc wd_324 k_gn)))))))))))))))))))))))
theorem gp_wsX11_judge_r2 : GoodIn lw_tbl wsX11_judge_r2 := k_gc wd_325 (k_gc wd_326 (k_gc wd_51 (k_gc wd_1109 (k_gc wd_1110 (k_gc wd_1111 (k_gc wd_1112 (k_gc wd_963 (k_gc wd_509 (k_gc wd_964 (k_gc wd_1113 (k_gc wd_652 (k_gc wd_653 (k_gc wd_654 (k_gc wd_602 (k_gc wd_603 (k_gc wd_604 (k_gc wd_605 (k_gc wd_606 (k_gc wd_607 (k_gc wd_608 (k_gc wd_609 (k_gc wd_524 (k_gc wd_525 k_gn)))))))))))))))))))))))
theorem gp_wsX11_judge_r3 : GoodIn lw_tbl wsX11_judge_r3 := k_gc wd_526 (k_gc wd_655 (k_gc wd_623 (k_gc wd_624 (k_gc wd_656 (k_gc wd_508 (k_gc wd_510 (k_gc wd_511 (k_gc wd_512 (k_gc wd_513 (k_gc wd_514 (k_gc wd_515 (k_gc wd_516 (k_gc wd_517 (k_gc wd_518 (k_gc wd_519 (k_gc wd_520 (k_gc wd_329 (k_gc wd_330 (k_gc wd_331 (k_gc wd_332 k_gn))))))))))))))))))))
theorem gp_wsX11_judge : GoodIn lw_tbl wsX11_judge := k_gc wd_1203 (goodIn_app (goodIn_app (goodIn_app (goodIn_app (gp_wsX11_judge_r1) (goodIn_app (gp_wsX11_judge_r2) (gp_wsX11_judge_r3))) (k_G_wsX110)) (k_G_wsX40)) (k_G_wsX90))
theorem wd_1205 : kG (Cond.methodLink RL 189 yX11_judge) := ⟨tk_4 _ (List.mem_of_getElem? (i := 211) (by decide +kernel)), Or.inl rfl⟩
theorem wd_1206 : kG (Cond.instanceMethod yX11_judge) := ⟨tk_4 _ (List.mem_of_getElem? (i := 212) (by decide +kernel)), Or.inl rfl⟩
theorem wd_1207 : kG (Cond.selects RX11 yX11_judge yX11_judge) := ⟨tk_4 _ (List.mem_of_getElem? (i := 213) (by decide +kernel)), Or.inl rfl⟩
theorem wd_1208 : kG (Cond.code yX13_judge cX13_judge 1 (some .int)) := ⟨tk_8 _ (List.mem_of_getElem? (i := 79) (by decide +kernel)), Or.inl rfl⟩
theorem gp_wsX13_judge_r1 : GoodIn lw_tbl wsX13_judge_r1 := k_gc wd_117 (k_gc wd_347 (k_gc wd_350 (k_gc wd_351 (k_gc wd_352 (k_gc wd_122 (k_gc wd_353 (k_gc wd_345 (k_gc wd_90 (k_gc wd_1126 (k_gc wd_1127 (k_gc wd_1128 (k_gc wd_1129 (k_gc wd_1130 (k_gc wd_1131 (k_gc wd_1132 (k_gc wd_1133 (k_gc wd_1134 (k_gc wd_1135 (k_gc wd_1136 (k_gc wd_969 (k_gc wd_970 (k_gc wd_971 (k_gc wd_661 k_gn)))))))))))))))))))))))
theorem gp_wsX13_judge_r2 : GoodIn lw_tbl wsX13_judge_r2 := k_gc wd_662 (k_gc wd_663 (k_gc wd_664 (k_gc wd_95 (k_gc wd_614 (k_gc wd_615 (k_gc wd_616 (k_gc wd_617 (k_gc wd_554 (k_gc wd_555 (k_gc wd_556 (k_gc wd_557 (k_gc wd_558 (k_gc wd_559 (k_gc wd_560 (k_gc wd_561 (k_gc wd_562 (k_gc wd_578 (k_gc wd_579 (k_gc wd_580 (k_gc wd_477 (k_gc wd_478 (k_gc wd_479 (k_gc wd_480 k_gn)))))))))))))))))))))))
theorem gp_wsX13_judge : GoodIn lw_tbl wsX13_judge := k_gc wd_1208 (goodIn_app (goodIn_app (goodIn_app (gp_wsX13_judge_r1) (gp_wsX13_judge_r2)) (k_G_wsX130)) (k_G_wsX120))
theorem wd_1209 : kG (Cond.methodLink RL 192 yX13_judge) := ⟨tk_8 _ (List.mem_of_getElem? (i := 76) (by decide +kernel)), Or.inl rfl⟩
theorem wd_1210 : kG (Cond.instanceMethod yX13_judge) := ⟨tk_8 _ (List.mem_of_getElem? (i := 77) (by decide +kernel)), Or.inl rfl⟩
theorem wd_1211 : kG (Cond.selects RX13 yX13_judge yX13_judge) := ⟨tk_8 _ (List.mem_of_getElem? (i := 78) (by decide +kernel)), Or.inl rfl⟩
theorem wd_1212 : kG (Cond.code yX11_odds cX11_odds 6 (some .long)) := ⟨tk_4 _ (List.mem_of_getElem? (i := 219) (by decide +kernel)), Or.inl rfl⟩
theorem wd_1213 : kG (Cond.constantLong RX11 292 (100)) := ⟨tk_4 _ (List.mem_of_getElem? (i := 229) (by decide +kernel)), Or.inl rfl⟩
theorem wd_1214 : kG (Cond.methodLink RX11 286 yX2_upToChanges) := ⟨tk_4 _ (List.mem_of_getElem? (i := 220) (by decide +kernel)), Or.inl rfl⟩
theorem wd_1215 : kG (Cond.static yX2_upToChanges) := ⟨tk_4 _ (List.mem_of_getElem? (i := 221) (by decide +kernel)), Or.inl rfl⟩
theorem wd_1216 : kG (Cond.initialized RX2) := ⟨tk_1 _ (List.mem_of_getElem? (i := 20) (by decide +kernel)), Or.inl rfl⟩
theorem wd_1217 : kG (Cond.code yX2_upToChanges cX2_upToChanges 8 (some .long)) := ⟨tk_4 _ (List.mem_of_getElem? (i := 222) (by decide +kernel)), Or.inl rfl⟩
theorem wd_1218 : kG (Cond.methodLink RX2 13 yX2_withChanges) := ⟨tk_4 _ (List.mem_of_getElem? (i := 223) (by decide +kernel)), Or.inl rfl⟩
theorem wd_1219 : kG (Cond.static yX2_withChanges) := ⟨tk_4 _ (List.mem_of_getElem? (i := 224) (by decide +kernel)), Or.inl rfl⟩
theorem wd_1220 : kG (Cond.code yX2_withChanges cX2_withChanges 3 (some .long)) := ⟨tk_4 _ (List.mem_of_getElem? (i := 225) (by decide +kernel)), Or.inl rfl⟩
theorem wd_1221 : kG (Cond.methodLink RX2 7 yX2_power) := ⟨tk_4 _ (List.mem_of_getElem? (i := 226) (by decide +kernel)), Or.inl rfl⟩
theorem wd_1222 : kG (Cond.static yX2_power) := ⟨tk_4 _ (List.mem_of_getElem? (i := 227) (by decide +kernel)), Or.inl rfl⟩
theorem wd_1223 : kG (Cond.code yX2_power cX2_power 6 (some .long)) := ⟨tk_4 _ (List.mem_of_getElem? (i := 228) (by decide +kernel)), Or.inl rfl⟩
theorem wd_1224 : kG (Cond.methodLink RX11 294 yX2_power) := ⟨tk_4 _ (List.mem_of_getElem? (i := 230) (by decide +kernel)), Or.inl rfl⟩
theorem gp_wsX11_odds_r1 : GoodIn lw_tbl wsX11_odds_r1 := k_gc wd_35 (k_gc wd_1213 (k_gc wd_126 (k_gc wd_127 (k_gc wd_128 (k_gc wd_115 (k_gc wd_129 (k_gc wd_130 (k_gc wd_1214 (k_gc wd_1215 (k_gc wd_1216 (k_gc wd_1217 (k_gc wd_1218 (k_gc wd_1219 (k_gc wd_1220 (k_gc wd_1221 (k_gc wd_1222 (k_gc wd_1223 (k_gc wd_1224 (k_gc wd_669 (k_gc wd_670 (k_gc wd_671 (k_gc wd_672 (k_gc wd_673 k_gn)))))))))))))))))))))))
theorem gp_wsX11_odds_r2 : GoodIn lw_tbl wsX11_odds_r2 := k_gc wd_674 (k_gc wd_535 (k_gc wd_675 (k_gc wd_676 (k_gc wd_677 (k_gc wd_678 k_gn)))))
theorem gp_wsX11_odds : GoodIn lw_tbl wsX11_odds := k_gc wd_1212 (goodIn_app (goodIn_app (goodIn_app (gp_wsX11_odds_r1) (gp_wsX11_odds_r2)) (k_G_wsX110)) (k_G_wsX40))
theorem wd_1225 : kG (Cond.methodLink RL 193 yX11_odds) := ⟨tk_4 _ (List.mem_of_getElem? (i := 216) (by decide +kernel)), Or.inl rfl⟩
theorem wd_1226 : kG (Cond.instanceMethod yX11_odds) := ⟨tk_4 _ (List.mem_of_getElem? (i := 217) (by decide +kernel)), Or.inl rfl⟩
theorem wd_1227 : kG (Cond.selects RX11 yX11_odds yX11_odds) := ⟨tk_4 _ (List.mem_of_getElem? (i := 218) (by decide +kernel)), Or.inl rfl⟩
theorem wd_1228 : kG (Cond.code yX13_odds cX13_odds 8 (some .long)) := ⟨tk_8 _ (List.mem_of_getElem? (i := 83) (by decide +kernel)), Or.inl rfl⟩
theorem wd_1229 : kG (Cond.constantLong RX13 427 (100)) := ⟨tk_8 _ (List.mem_of_getElem? (i := 91) (by decide +kernel)), Or.inl rfl⟩
theorem wd_1230 : kG (Cond.methodLink RX13 420 yX13_refusesGrowth) := ⟨tk_8 _ (List.mem_of_getElem? (i := 84) (by decide +kernel)), Or.inl rfl⟩
theorem wd_1231 : kG (Cond.instanceMethod yX13_refusesGrowth) := ⟨tk_8 _ (List.mem_of_getElem? (i := 86) (by decide +kernel)), Or.inl rfl⟩
theorem wd_1232 : kG (Cond.selects RX13 yX13_refusesGrowth yX13_refusesGrowth) := ⟨List.mem_of_getElem? (i := 73) (by decide +kernel), Or.inl rfl⟩
theorem wd_1233 : kG (Cond.code yX13_refusesGrowth cX13_refusesGrowth 3 (some .int)) := ⟨tk_8 _ (List.mem_of_getElem? (i := 87) (by decide +kernel)), Or.inl rfl⟩
theorem wd_1234 : kG (Cond.methodLink RX13 423 yX13_power) := ⟨tk_8 _ (List.mem_of_getElem? (i := 88) (by decide +kernel)), Or.inl rfl⟩
theorem gp_wsX13_odds_r1 : GoodIn lw_tbl wsX13_odds_r1 := k_gc wd_117 (k_gc wd_347 (k_gc wd_1229 (k_gc wd_1230 (k_gc wd_1231 (k_gc wd_1232 (k_gc wd_122 (k_gc wd_1233 (k_gc wd_435 (k_gc wd_436 (k_gc wd_437 (k_gc wd_350 (k_gc wd_351 (k_gc wd_352 (k_gc wd_353 (k_gc wd_345 (k_gc wd_90 (k_gc wd_569 (k_gc wd_570 (k_gc wd_571 (k_gc wd_560 (k_gc wd_561 (k_gc wd_562 (k_gc wd_1234 k_gn)))))))))))))))))))))))
theorem wd_1235 : kG (Cond.static yX13_power) := ⟨tk_8 _ (List.mem_of_getElem? (i := 89) (by decide +kernel)), Or.inl rfl⟩
theorem wd_1236 : kG (Cond.code yX13_power cX13_power 6 (some .long)) := ⟨tk_8 _ (List.mem_of_getElem? (i := 90) (by decide +kernel)), Or.inl rfl⟩
theorem gp_wsX13_odds_r2 : GoodIn lw_tbl wsX13_odds_r2 := k_gc wd_1235 (k_gc wd_1236 (k_gc wd_683 (k_gc wd_684 (k_gc wd_685 (k_gc wd_686 (k_gc wd_477 (k_gc wd_478 (k_gc wd_479 (k_gc wd_480 (k_gc wd_687 (k_gc wd_688 (k_gc wd_689 k_gn))))))))))))
theorem gp_wsX13_odds : GoodIn lw_tbl wsX13_odds := k_gc wd_1228 (goodIn_app (goodIn_app (goodIn_app (gp_wsX13_odds_r1) (gp_wsX13_odds_r2)) (k_G_wsX130)) (k_G_wsX120))
theorem wd_1237 : kG (Cond.methodLink RL 197 yX13_odds) := ⟨tk_8 _ (List.mem_of_getElem? (i := 80) (by decide +kernel)), Or.inl rfl⟩
theorem wd_1238 : kG (Cond.instanceMethod yX13_odds) := ⟨tk_8 _ (List.mem_of_getElem? (i := 81) (by decide +kernel)), Or.inl rfl⟩
theorem wd_1239 : kG (Cond.selects RX13 yX13_odds yX13_odds) := ⟨tk_8 _ (List.mem_of_getElem? (i := 82) (by decide +kernel)), Or.inl rfl⟩
theorem wd_1240 : kG (Cond.code yX11_rowOdds cX11_rowOdds 7 (some .long)) := ⟨tk_4 _ (List.mem_of_getElem? (i := 234) (by decide +kernel)), Or.inl rfl⟩
theorem gp_wsX11_rowOdds_r1 : GoodIn lw_tbl wsX11_rowOdds_r1 := k_gc wd_15 (k_gc wd_35 (k_gc wd_1213 (k_gc wd_501 (k_gc wd_502 (k_gc wd_503 (k_gc wd_115 (k_gc wd_504 (k_gc wd_126 (k_gc wd_127 (k_gc wd_128 (k_gc wd_129 (k_gc wd_130 (k_gc wd_506 (k_gc wd_299 (k_gc wd_300 (k_gc wd_14 (k_gc wd_301 (k_gc wd_52 (k_gc wd_296 (k_gc wd_297 (k_gc wd_505 (k_gc wd_324 (k_gc wd_325 k_gn)))))))))))))))))))))))
theorem wd_1241 : kG (Cond.methodLink RX11 298 yX8_changes) := ⟨tk_4 _ (List.mem_of_getElem? (i := 235) (by decide +kernel)), Or.inl rfl⟩
theorem wd_1242 : kG (Cond.static yX8_changes) := ⟨tk_4 _ (List.mem_of_getElem? (i := 236) (by decide +kernel)), Or.inl rfl⟩
theorem wd_1243 : kG (Cond.code yX8_changes cX8_changes 2 (some .int)) := ⟨tk_4 _ (List.mem_of_getElem? (i := 237) (by decide +kernel)), Or.inl rfl⟩
theorem wd_1244 : kG (Cond.methodLink RX11 301 yX2_withChanges) := ⟨tk_4 _ (List.mem_of_getElem? (i := 238) (by decide +kernel)), Or.inl rfl⟩
theorem gp_wsX11_rowOdds_r2 : GoodIn lw_tbl wsX11_rowOdds_r2 := k_gc wd_326 (k_gc wd_51 (k_gc wd_1241 (k_gc wd_1242 (k_gc wd_509 (k_gc wd_1243 (k_gc wd_885 (k_gc wd_871 (k_gc wd_872 (k_gc wd_514 (k_gc wd_515 (k_gc wd_516 (k_gc wd_517 (k_gc wd_518 (k_gc wd_519 (k_gc wd_520 (k_gc wd_1244 (k_gc wd_1219 (k_gc wd_1216 (k_gc wd_1220 (k_gc wd_1221 (k_gc wd_1222 (k_gc wd_1223 (k_gc wd_1224 k_gn)))))))))))))))))))))))
theorem gp_wsX11_rowOdds_r3 : GoodIn lw_tbl wsX11_rowOdds_r3 := k_gc wd_669 (k_gc wd_670 (k_gc wd_671 (k_gc wd_672 (k_gc wd_673 (k_gc wd_674 (k_gc wd_535 (k_gc wd_675 (k_gc wd_676 (k_gc wd_677 (k_gc wd_678 k_gn))))))))))
theorem gp_wsX11_rowOdds : GoodIn lw_tbl wsX11_rowOdds := k_gc wd_1240 (goodIn_app (goodIn_app (goodIn_app (goodIn_app (gp_wsX11_rowOdds_r1) (goodIn_app (gp_wsX11_rowOdds_r2) (gp_wsX11_rowOdds_r3))) (k_G_wsX110)) (k_G_wsX40)) (k_G_wsX90))
theorem wd_1245 : kG (Cond.methodLink RL 198 yX11_rowOdds) := ⟨tk_4 _ (List.mem_of_getElem? (i := 231) (by decide +kernel)), Or.inl rfl⟩
theorem wd_1246 : kG (Cond.instanceMethod yX11_rowOdds) := ⟨tk_4 _ (List.mem_of_getElem? (i := 232) (by decide +kernel)), Or.inl rfl⟩
theorem wd_1247 : kG (Cond.selects RX11 yX11_rowOdds yX11_rowOdds) := ⟨tk_4 _ (List.mem_of_getElem? (i := 233) (by decide +kernel)), Or.inl rfl⟩
theorem wd_1248 : kG (Cond.code yX13_rowOdds cX13_rowOdds 7 (some .long)) := ⟨tk_8 _ (List.mem_of_getElem? (i := 95) (by decide +kernel)), Or.inl rfl⟩
theorem gp_wsX13_rowOdds_r1 : GoodIn lw_tbl wsX13_rowOdds_r1 := k_gc wd_117 (k_gc wd_347 (k_gc wd_1229 (k_gc wd_542 (k_gc wd_543 (k_gc wd_544 (k_gc wd_122 (k_gc wd_545 (k_gc wd_350 (k_gc wd_351 (k_gc wd_352 (k_gc wd_353 (k_gc wd_345 (k_gc wd_90 (k_gc wd_546 (k_gc wd_547 (k_gc wd_548 (k_gc wd_549 (k_gc wd_92 (k_gc wd_550 (k_gc wd_551 (k_gc wd_552 (k_gc wd_553 (k_gc wd_578 k_gn)))))))))))))))))))))))
theorem gp_wsX13_rowOdds_r2 : GoodIn lw_tbl wsX13_rowOdds_r2 := k_gc wd_579 (k_gc wd_580 (k_gc wd_1234 (k_gc wd_1235 (k_gc wd_1236 (k_gc wd_683 (k_gc wd_684 (k_gc wd_685 (k_gc wd_686 (k_gc wd_477 (k_gc wd_478 (k_gc wd_479 (k_gc wd_480 (k_gc wd_687 (k_gc wd_688 (k_gc wd_689 k_gn)))))))))))))))
theorem gp_wsX13_rowOdds : GoodIn lw_tbl wsX13_rowOdds := k_gc wd_1248 (goodIn_app (goodIn_app (goodIn_app (gp_wsX13_rowOdds_r1) (gp_wsX13_rowOdds_r2)) (k_G_wsX130)) (k_G_wsX120))
theorem wd_1249 : kG (Cond.methodLink RL 201 yX13_rowOdds) := ⟨tk_8 _ (List.mem_of_getElem? (i := 92) (by decide +kernel)), Or.inl rfl⟩
theorem wd_1250 : kG (Cond.instanceMethod yX13_rowOdds) := ⟨tk_8 _ (List.mem_of_getElem? (i := 93) (by decide +kernel)), Or.inl rfl⟩
theorem wd_1251 : kG (Cond.selects RX13 yX13_rowOdds yX13_rowOdds) := ⟨tk_8 _ (List.mem_of_getElem? (i := 94) (by decide +kernel)), Or.inl rfl⟩
theorem wd_1252 : kG (Cond.code yX11_meanSum cX11_meanSum 5 (some .long)) := ⟨tk_5 _ (List.mem_of_getElem? (i := 2) (by decide +kernel)), Or.inl rfl⟩
theorem wd_1253 : kG (Cond.methodLink RX11 304 yX2_meanTotal) := ⟨tk_5 _ (List.mem_of_getElem? (i := 3) (by decide +kernel)), Or.inl rfl⟩
theorem wd_1254 : kG (Cond.static yX2_meanTotal) := ⟨tk_5 _ (List.mem_of_getElem? (i := 4) (by decide +kernel)), Or.inl rfl⟩
theorem wd_1255 : kG (Cond.code yX2_meanTotal cX2_meanTotal 5 (some .long)) := ⟨tk_5 _ (List.mem_of_getElem? (i := 5) (by decide +kernel)), Or.inl rfl⟩
theorem wd_1256 : kG (Cond.constantLong RX2 17 (100)) := ⟨tk_5 _ (List.mem_of_getElem? (i := 6) (by decide +kernel)), Or.inl rfl⟩
theorem gp_wsX11_meanSum_r1 : GoodIn lw_tbl wsX11_meanSum_r1 := k_gc wd_35 (k_gc wd_694 (k_gc wd_1213 (k_gc wd_126 (k_gc wd_127 (k_gc wd_128 (k_gc wd_115 (k_gc wd_129 (k_gc wd_130 (k_gc wd_1253 (k_gc wd_1254 (k_gc wd_1216 (k_gc wd_1255 (k_gc wd_1256 (k_gc wd_1221 (k_gc wd_1222 (k_gc wd_1223 (k_gc wd_1224 (k_gc wd_669 (k_gc wd_670 (k_gc wd_671 (k_gc wd_672 (k_gc wd_673 (k_gc wd_674 k_gn)))))))))))))))))))))))
theorem gp_wsX11_meanSum_r2 : GoodIn lw_tbl wsX11_meanSum_r2 := k_gc wd_535 (k_gc wd_675 (k_gc wd_676 (k_gc wd_677 (k_gc wd_678 k_gn))))
theorem gp_wsX11_meanSum : GoodIn lw_tbl wsX11_meanSum := k_gc wd_1252 (goodIn_app (goodIn_app (goodIn_app (gp_wsX11_meanSum_r1) (gp_wsX11_meanSum_r2)) (k_G_wsX110)) (k_G_wsX40))
theorem wd_1257 : kG (Cond.methodLink RL 202 yX11_meanSum) := ⟨tk_4 _ (List.mem_of_getElem? (i := 239) (by decide +kernel)), Or.inl rfl⟩
theorem wd_1258 : kG (Cond.instanceMethod yX11_meanSum) := ⟨tk_5 _ (List.mem_of_getElem? (i := 0) (by decide +kernel)), Or.inl rfl⟩
theorem wd_1259 : kG (Cond.selects RX11 yX11_meanSum yX11_meanSum) := ⟨tk_5 _ (List.mem_of_getElem? (i := 1) (by decide +kernel)), Or.inl rfl⟩
theorem wd_1260 : kG (Cond.code yX13_meanSum cX13_meanSum 7 (some .long)) := ⟨tk_8 _ (List.mem_of_getElem? (i := 99) (by decide +kernel)), Or.inl rfl⟩
theorem gp_wsX13_meanSum_r1 : GoodIn lw_tbl wsX13_meanSum_r1 := k_gc wd_117 (k_gc wd_711 (k_gc wd_347 (k_gc wd_1229 (k_gc wd_1230 (k_gc wd_1231 (k_gc wd_1232 (k_gc wd_122 (k_gc wd_1233 (k_gc wd_435 (k_gc wd_436 (k_gc wd_437 (k_gc wd_593 (k_gc wd_594 (k_gc wd_595 (k_gc wd_596 (k_gc wd_350 (k_gc wd_351 (k_gc wd_352 (k_gc wd_353 (k_gc wd_345 (k_gc wd_90 (k_gc wd_1234 (k_gc wd_1235 k_gn)))))))))))))))))))))))
theorem gp_wsX13_meanSum_r2 : GoodIn lw_tbl wsX13_meanSum_r2 := k_gc wd_1236 (k_gc wd_683 (k_gc wd_684 (k_gc wd_685 (k_gc wd_686 (k_gc wd_477 (k_gc wd_478 (k_gc wd_479 (k_gc wd_480 (k_gc wd_687 (k_gc wd_688 (k_gc wd_689 k_gn)))))))))))
theorem gp_wsX13_meanSum : GoodIn lw_tbl wsX13_meanSum := k_gc wd_1260 (goodIn_app (goodIn_app (goodIn_app (gp_wsX13_meanSum_r1) (gp_wsX13_meanSum_r2)) (k_G_wsX130)) (k_G_wsX120))
theorem wd_1261 : kG (Cond.methodLink RL 205 yX13_meanSum) := ⟨tk_8 _ (List.mem_of_getElem? (i := 96) (by decide +kernel)), Or.inl rfl⟩
theorem wd_1262 : kG (Cond.instanceMethod yX13_meanSum) := ⟨tk_8 _ (List.mem_of_getElem? (i := 97) (by decide +kernel)), Or.inl rfl⟩
theorem wd_1263 : kG (Cond.selects RX13 yX13_meanSum yX13_meanSum) := ⟨tk_8 _ (List.mem_of_getElem? (i := 98) (by decide +kernel)), Or.inl rfl⟩
theorem wd_1264 : kG (Cond.code yX11_grown cX11_grown 3 (some .int)) := ⟨tk_5 _ (List.mem_of_getElem? (i := 10) (by decide +kernel)), Or.inl rfl⟩
theorem wd_1265 : kG (Cond.methodLink RX11 308 yX11_isNoSeed) := ⟨tk_5 _ (List.mem_of_getElem? (i := 11) (by decide +kernel)), Or.inl rfl⟩
theorem wd_1266 : kG (Cond.static yX11_isNoSeed) := ⟨tk_5 _ (List.mem_of_getElem? (i := 12) (by decide +kernel)), Or.inl rfl⟩
theorem wd_1267 : kG (Cond.code yX11_isNoSeed cX11_isNoSeed 1 (some .boolean)) := ⟨tk_5 _ (List.mem_of_getElem? (i := 13) (by decide +kernel)), Or.inl rfl⟩
theorem wd_1268 : kG (Cond.constant RX11 317 (65536)) := ⟨tk_5 _ (List.mem_of_getElem? (i := 14) (by decide +kernel)), Or.inl rfl⟩
theorem wd_1269 : kG (Cond.methodLink RX11 311 yX2_rowBy) := ⟨tk_5 _ (List.mem_of_getElem? (i := 15) (by decide +kernel)), Or.inl rfl⟩
theorem wd_1270 : kG (Cond.static yX2_rowBy) := ⟨tk_5 _ (List.mem_of_getElem? (i := 16) (by decide +kernel)), Or.inl rfl⟩
theorem wd_1271 : kG (Cond.code yX2_rowBy cX2_rowBy 7 (some .int)) := ⟨tk_5 _ (List.mem_of_getElem? (i := 17) (by decide +kernel)), Or.inl rfl⟩
theorem wd_1272 : kG (Cond.methodLink RX2 20 yX2_drawBehind) := ⟨tk_5 _ (List.mem_of_getElem? (i := 18) (by decide +kernel)), Or.inl rfl⟩
theorem wd_1273 : kG (Cond.static yX2_drawBehind) := ⟨tk_5 _ (List.mem_of_getElem? (i := 19) (by decide +kernel)), Or.inl rfl⟩
theorem wd_1274 : kG (Cond.code yX2_drawBehind cX2_drawBehind 1 (some .int)) := ⟨tk_5 _ (List.mem_of_getElem? (i := 20) (by decide +kernel)), Or.inl rfl⟩
theorem wd_1275 : kG (Cond.constant RX2 19 (65537)) := ⟨tk_5 _ (List.mem_of_getElem? (i := 21) (by decide +kernel)), Or.inl rfl⟩
theorem gp_wsX11_grown : GoodIn lw_tbl wsX11_grown := k_gc wd_1264 (goodIn_app (goodIn_app (k_gc wd_35 (k_gc wd_126 (k_gc wd_127 (k_gc wd_128 (k_gc wd_115 (k_gc wd_129 (k_gc wd_130 (k_gc wd_1265 (k_gc wd_1266 (k_gc wd_1267 (k_gc wd_1268 (k_gc wd_1269 (k_gc wd_1270 (k_gc wd_1216 (k_gc wd_1271 (k_gc wd_1272 (k_gc wd_1273 (k_gc wd_1274 (k_gc wd_1275 (k_gc wd_329 (k_gc wd_330 (k_gc wd_331 (k_gc wd_332 k_gn))))))))))))))))))))))) (k_G_wsX110)) (k_G_wsX40))
theorem wd_1276 : kG (Cond.methodLink RL 206 yX11_grown) := ⟨tk_5 _ (List.mem_of_getElem? (i := 7) (by decide +kernel)), Or.inl rfl⟩
theorem wd_1277 : kG (Cond.instanceMethod yX11_grown) := ⟨tk_5 _ (List.mem_of_getElem? (i := 8) (by decide +kernel)), Or.inl rfl⟩
theorem wd_1278 : kG (Cond.selects RX11 yX11_grown yX11_grown) := ⟨tk_5 _ (List.mem_of_getElem? (i := 9) (by decide +kernel)), Or.inl rfl⟩
theorem wd_1279 : kG (Cond.code yX13_grown cX13_grown 6 (some .int)) := ⟨tk_8 _ (List.mem_of_getElem? (i := 103) (by decide +kernel)), Or.inl rfl⟩
theorem wd_1280 : kG (Cond.constant RX13 438 (65536)) := ⟨tk_8 _ (List.mem_of_getElem? (i := 104) (by decide +kernel)), Or.inl rfl⟩
theorem wd_1281 : kG (Cond.fieldLink RX13 431 "ClosePackingModel" "seedThen" "I") := ⟨tk_5 _ (List.mem_of_getElem? (i := 221) (by decide +kernel)), Or.inl rfl⟩
theorem wd_1282 : kG (Cond.methodLink RX13 439 yX13_isLike) := ⟨tk_8 _ (List.mem_of_getElem? (i := 105) (by decide +kernel)), Or.inl rfl⟩
theorem wd_1283 : kG (Cond.instanceMethod yX13_isLike) := ⟨tk_8 _ (List.mem_of_getElem? (i := 107) (by decide +kernel)), Or.inl rfl⟩
theorem wd_1284 : kG (Cond.selects RX13 yX13_isLike yX13_isLike) := ⟨List.mem_of_getElem? (i := 74) (by decide +kernel), Or.inl rfl⟩
theorem wd_1285 : kG (Cond.code yX13_isLike cX13_isLike 1 (some .boolean)) := ⟨tk_8 _ (List.mem_of_getElem? (i := 108) (by decide +kernel)), Or.inl rfl⟩
theorem wd_1286 : kG (Cond.constantLong RX13 429 (75)) := ⟨tk_8 _ (List.mem_of_getElem? (i := 109) (by decide +kernel)), Or.inl rfl⟩
theorem wd_1287 : kG (Cond.constantLong RX13 434 (74)) := ⟨tk_8 _ (List.mem_of_getElem? (i := 110) (by decide +kernel)), Or.inl rfl⟩
theorem gp_wsX13_grown_r1 : GoodIn lw_tbl wsX13_grown_r1 := k_gc wd_117 (k_gc wd_1280 (k_gc wd_1281 (k_gc wd_1230 (k_gc wd_1231 (k_gc wd_1232 (k_gc wd_122 (k_gc wd_1233 (k_gc wd_347 (k_gc wd_435 (k_gc wd_436 (k_gc wd_437 (k_gc wd_350 (k_gc wd_351 (k_gc wd_352 (k_gc wd_353 (k_gc wd_345 (k_gc wd_90 (k_gc wd_1282 (k_gc wd_1283 (k_gc wd_1284 (k_gc wd_1285 (k_gc wd_1286 (k_gc wd_1287 k_gn)))))))))))))))))))))))
theorem wd_1288 : kG (Cond.constantLong RX13 436 (65537)) := ⟨tk_8 _ (List.mem_of_getElem? (i := 111) (by decide +kernel)), Or.inl rfl⟩
theorem gp_wsX13_grown_r2 : GoodIn lw_tbl wsX13_grown_r2 := k_gc wd_1288 (k_gc wd_477 (k_gc wd_478 (k_gc wd_479 (k_gc wd_480 k_gn))))
theorem gp_wsX13_grown : GoodIn lw_tbl wsX13_grown := k_gc wd_1279 (goodIn_app (goodIn_app (goodIn_app (gp_wsX13_grown_r1) (gp_wsX13_grown_r2)) (k_G_wsX130)) (k_G_wsX120))
theorem wd_1289 : kG (Cond.methodLink RL 209 yX13_grown) := ⟨tk_8 _ (List.mem_of_getElem? (i := 100) (by decide +kernel)), Or.inl rfl⟩
theorem wd_1290 : kG (Cond.instanceMethod yX13_grown) := ⟨tk_8 _ (List.mem_of_getElem? (i := 101) (by decide +kernel)), Or.inl rfl⟩
theorem wd_1291 : kG (Cond.selects RX13 yX13_grown yX13_grown) := ⟨tk_8 _ (List.mem_of_getElem? (i := 102) (by decide +kernel)), Or.inl rfl⟩
theorem wd_1292 : kG (Cond.code yX11_longestRun cX11_longestRun 3 (some .int)) := ⟨tk_5 _ (List.mem_of_getElem? (i := 25) (by decide +kernel)), Or.inl rfl⟩
theorem wd_1293 : kG (Cond.methodLink RX11 314 yX2_longestBy) := ⟨tk_5 _ (List.mem_of_getElem? (i := 26) (by decide +kernel)), Or.inl rfl⟩
theorem wd_1294 : kG (Cond.static yX2_longestBy) := ⟨tk_5 _ (List.mem_of_getElem? (i := 27) (by decide +kernel)), Or.inl rfl⟩
theorem wd_1295 : kG (Cond.code yX2_longestBy cX2_longestBy 7 (some .int)) := ⟨tk_5 _ (List.mem_of_getElem? (i := 28) (by decide +kernel)), Or.inl rfl⟩
theorem wd_1296 : kG (Cond.methodLink RX2 24 Lib.Math.max.name) := ⟨tk_5 _ (List.mem_of_getElem? (i := 29) (by decide +kernel)), Or.inl rfl⟩
theorem gp_wsX11_longestRun_r1 : GoodIn lw_tbl wsX11_longestRun_r1 := k_gc wd_35 (k_gc wd_126 (k_gc wd_127 (k_gc wd_128 (k_gc wd_115 (k_gc wd_129 (k_gc wd_130 (k_gc wd_1265 (k_gc wd_1266 (k_gc wd_1267 (k_gc wd_1268 (k_gc wd_1293 (k_gc wd_1294 (k_gc wd_1216 (k_gc wd_1295 (k_gc wd_1296 (k_gc wd_534 (k_gc wd_535 (k_gc wd_536 (k_gc wd_1272 (k_gc wd_1273 (k_gc wd_1274 (k_gc wd_1275 (k_gc wd_329 k_gn)))))))))))))))))))))))
theorem gp_wsX11_longestRun_r2 : GoodIn lw_tbl wsX11_longestRun_r2 := k_gc wd_330 (k_gc wd_331 (k_gc wd_332 k_gn))
theorem gp_wsX11_longestRun : GoodIn lw_tbl wsX11_longestRun := k_gc wd_1292 (goodIn_app (goodIn_app (goodIn_app (gp_wsX11_longestRun_r1) (gp_wsX11_longestRun_r2)) (k_G_wsX110)) (k_G_wsX40))
theorem wd_1297 : kG (Cond.methodLink RL 210 yX11_longestRun) := ⟨tk_5 _ (List.mem_of_getElem? (i := 22) (by decide +kernel)), Or.inl rfl⟩
theorem wd_1298 : kG (Cond.instanceMethod yX11_longestRun) := ⟨tk_5 _ (List.mem_of_getElem? (i := 23) (by decide +kernel)), Or.inl rfl⟩
theorem wd_1299 : kG (Cond.selects RX11 yX11_longestRun yX11_longestRun) := ⟨tk_5 _ (List.mem_of_getElem? (i := 24) (by decide +kernel)), Or.inl rfl⟩
theorem wd_1300 : kG (Cond.code yX13_longestRun cX13_longestRun 7 (some .int)) := ⟨tk_8 _ (List.mem_of_getElem? (i := 115) (by decide +kernel)), Or.inl rfl⟩
theorem gp_wsX13_longestRun_r1 : GoodIn lw_tbl wsX13_longestRun_r1 := k_gc wd_117 (k_gc wd_1280 (k_gc wd_1281 (k_gc wd_1230 (k_gc wd_1231 (k_gc wd_1232 (k_gc wd_122 (k_gc wd_1233 (k_gc wd_347 (k_gc wd_435 (k_gc wd_436 (k_gc wd_437 (k_gc wd_350 (k_gc wd_351 (k_gc wd_352 (k_gc wd_353 (k_gc wd_345 (k_gc wd_90 (k_gc wd_1282 (k_gc wd_1283 (k_gc wd_1284 (k_gc wd_1285 (k_gc wd_1286 (k_gc wd_1287 k_gn)))))))))))))))))))))))
theorem gp_wsX13_longestRun_r2 : GoodIn lw_tbl wsX13_longestRun_r2 := k_gc wd_1288 (k_gc wd_477 (k_gc wd_478 (k_gc wd_479 (k_gc wd_480 k_gn))))
theorem gp_wsX13_longestRun : GoodIn lw_tbl wsX13_longestRun := k_gc wd_1300 (goodIn_app (goodIn_app (goodIn_app (gp_wsX13_longestRun_r1) (gp_wsX13_longestRun_r2)) (k_G_wsX130)) (k_G_wsX120))
theorem wd_1301 : kG (Cond.methodLink RL 213 yX13_longestRun) := ⟨tk_8 _ (List.mem_of_getElem? (i := 112) (by decide +kernel)), Or.inl rfl⟩
theorem wd_1302 : kG (Cond.instanceMethod yX13_longestRun) := ⟨tk_8 _ (List.mem_of_getElem? (i := 113) (by decide +kernel)), Or.inl rfl⟩
theorem wd_1303 : kG (Cond.selects RX13 yX13_longestRun yX13_longestRun) := ⟨tk_8 _ (List.mem_of_getElem? (i := 114) (by decide +kernel)), Or.inl rfl⟩
theorem wd_1304 : kG (Cond.code yX11_slip cX11_slip 4 (some .int)) := ⟨tk_5 _ (List.mem_of_getElem? (i := 33) (by decide +kernel)), Or.inl rfl⟩
theorem gp_wsX11_slip_r1 : GoodIn lw_tbl wsX11_slip_r1 := k_gc wd_15 (k_gc wd_501 (k_gc wd_502 (k_gc wd_503 (k_gc wd_115 (k_gc wd_504 (k_gc wd_126 (k_gc wd_127 (k_gc wd_128 (k_gc wd_129 (k_gc wd_130 (k_gc wd_506 (k_gc wd_299 (k_gc wd_300 (k_gc wd_14 (k_gc wd_301 (k_gc wd_52 (k_gc wd_296 (k_gc wd_297 (k_gc wd_505 (k_gc wd_324 (k_gc wd_325 (k_gc wd_326 (k_gc wd_51 k_gn)))))))))))))))))))))))
theorem wd_1305 : kG (Cond.methodLink RX11 318 yX11_change) := ⟨tk_5 _ (List.mem_of_getElem? (i := 34) (by decide +kernel)), Or.inl rfl⟩
theorem wd_1306 : kG (Cond.instanceMethod yX11_change) := ⟨tk_5 _ (List.mem_of_getElem? (i := 36) (by decide +kernel)), Or.inl rfl⟩
theorem wd_1307 : kG (Cond.selects RX11 yX11_change yX11_change) := ⟨List.mem_of_getElem? (i := 27) (by decide +kernel), Or.inl rfl⟩
theorem wd_1308 : kG (Cond.code yX11_change cX11_change 4 none) := ⟨tk_5 _ (List.mem_of_getElem? (i := 37) (by decide +kernel)), Or.inl rfl⟩
theorem wd_1309 : kG (Cond.methodLink RX11 339 yX0_keep) := ⟨tk_5 _ (List.mem_of_getElem? (i := 38) (by decide +kernel)), Or.inl rfl⟩
theorem wd_1310 : kG (Cond.instanceMethod yX0_keep) := ⟨tk_5 _ (List.mem_of_getElem? (i := 39) (by decide +kernel)), Or.inl rfl⟩
theorem wd_1311 : kG (Cond.selects RX0 yX0_keep yX0_keep) := ⟨tk_5 _ (List.mem_of_getElem? (i := 40) (by decide +kernel)), Or.inl rfl⟩
theorem wd_1312 : kG (Cond.code yX0_keep cX0_keep 4 none) := ⟨tk_5 _ (List.mem_of_getElem? (i := 41) (by decide +kernel)), Or.inl rfl⟩
theorem wd_1313 : kG (Cond.fieldLink RX0 21 "ClosePacking$Acts" "count" "I") := ⟨tk_1 _ (List.mem_of_getElem? (i := 116) (by decide +kernel)), Or.inl rfl⟩
theorem wd_1314 : kG (Cond.methodLink RX0 25 yX0_forgetFirst) := ⟨tk_5 _ (List.mem_of_getElem? (i := 42) (by decide +kernel)), Or.inl rfl⟩
theorem wd_1315 : kG (Cond.instanceMethod yX0_forgetFirst) := ⟨tk_5 _ (List.mem_of_getElem? (i := 44) (by decide +kernel)), Or.inl rfl⟩
theorem wd_1316 : kG (Cond.selects RX0 yX0_forgetFirst yX0_forgetFirst) := ⟨List.mem_of_getElem? (i := 28) (by decide +kernel), Or.inl rfl⟩
theorem wd_1317 : kG (Cond.code yX0_forgetFirst cX0_forgetFirst 2 none) := ⟨tk_5 _ (List.mem_of_getElem? (i := 45) (by decide +kernel)), Or.inl rfl⟩
theorem gp_wsX11_slip_r2 : GoodIn lw_tbl wsX11_slip_r2 := k_gc wd_962 (k_gc wd_963 (k_gc wd_509 (k_gc wd_964 (k_gc wd_1305 (k_gc wd_1306 (k_gc wd_1307 (k_gc wd_1308 (k_gc wd_19 (k_gc wd_1309 (k_gc wd_1310 (k_gc wd_1311 (k_gc wd_18 (k_gc wd_1312 (k_gc wd_1313 (k_gc wd_56 (k_gc wd_57 (k_gc wd_58 (k_gc wd_1314 (k_gc wd_1315 (k_gc wd_1316 (k_gc wd_1317 (k_gc wd_282 (k_gc wd_283 k_gn)))))))))))))))))))))))
theorem wd_1318 : kG (Cond.methodLink RX11 341 yX9_put) := ⟨tk_5 _ (List.mem_of_getElem? (i := 48) (by decide +kernel)), Or.inl rfl⟩
theorem gp_wsX11_slip_r3 : GoodIn lw_tbl wsX11_slip_r3 := k_gc wd_1318 (k_gc wd_279 (k_gc wd_280 (k_gc wd_281 (k_gc wd_329 (k_gc wd_330 (k_gc wd_331 (k_gc wd_332 k_gn)))))))
theorem gp_wsX11_slip : GoodIn lw_tbl wsX11_slip := k_gc wd_1304 (goodIn_app (goodIn_app (goodIn_app (goodIn_app (gp_wsX11_slip_r1) (goodIn_app (gp_wsX11_slip_r2) (gp_wsX11_slip_r3))) (k_G_wsX110)) (k_G_wsX90)) (k_G_wsX00))
theorem wd_1319 : kG (Cond.methodLink RL 214 yX11_slip) := ⟨tk_5 _ (List.mem_of_getElem? (i := 30) (by decide +kernel)), Or.inl rfl⟩
theorem wd_1320 : kG (Cond.instanceMethod yX11_slip) := ⟨tk_5 _ (List.mem_of_getElem? (i := 31) (by decide +kernel)), Or.inl rfl⟩
theorem wd_1321 : kG (Cond.selects RX11 yX11_slip yX11_slip) := ⟨tk_5 _ (List.mem_of_getElem? (i := 32) (by decide +kernel)), Or.inl rfl⟩
theorem wd_1322 : kG (Cond.code yX13_slip cX13_slip 3 (some .int)) := ⟨tk_8 _ (List.mem_of_getElem? (i := 119) (by decide +kernel)), Or.inl rfl⟩
theorem gp_wsX13_slip_r1 : GoodIn lw_tbl wsX13_slip_r1 := k_gc wd_117 (k_gc wd_542 (k_gc wd_543 (k_gc wd_544 (k_gc wd_122 (k_gc wd_545 (k_gc wd_347 (k_gc wd_350 (k_gc wd_351 (k_gc wd_352 (k_gc wd_353 (k_gc wd_345 (k_gc wd_90 (k_gc wd_546 (k_gc wd_547 (k_gc wd_548 (k_gc wd_549 (k_gc wd_92 (k_gc wd_435 (k_gc wd_436 (k_gc wd_437 (k_gc wd_550 (k_gc wd_551 (k_gc wd_552 k_gn)))))))))))))))))))))))
theorem wd_1323 : kG (Cond.methodLink RX13 445 yX13_becomes) := ⟨tk_8 _ (List.mem_of_getElem? (i := 120) (by decide +kernel)), Or.inl rfl⟩
theorem wd_1324 : kG (Cond.instanceMethod yX13_becomes) := ⟨tk_8 _ (List.mem_of_getElem? (i := 122) (by decide +kernel)), Or.inl rfl⟩
theorem wd_1325 : kG (Cond.selects RX13 yX13_becomes yX13_becomes) := ⟨List.mem_of_getElem? (i := 75) (by decide +kernel), Or.inl rfl⟩
theorem wd_1326 : kG (Cond.code yX13_becomes cX13_becomes 4 (some .int)) := ⟨tk_8 _ (List.mem_of_getElem? (i := 123) (by decide +kernel)), Or.inl rfl⟩
theorem wd_1327 : kG (Cond.methodLink RX13 442 yX13_remembers) := ⟨tk_8 _ (List.mem_of_getElem? (i := 124) (by decide +kernel)), Or.inl rfl⟩
theorem wd_1328 : kG (Cond.instanceMethod yX13_remembers) := ⟨tk_8 _ (List.mem_of_getElem? (i := 126) (by decide +kernel)), Or.inl rfl⟩
theorem wd_1329 : kG (Cond.selects RX13 yX13_remembers yX13_remembers) := ⟨List.mem_of_getElem? (i := 76) (by decide +kernel), Or.inl rfl⟩
theorem wd_1330 : kG (Cond.code yX13_remembers cX13_remembers 2 none) := ⟨tk_8 _ (List.mem_of_getElem? (i := 127) (by decide +kernel)), Or.inl rfl⟩
theorem gp_wsX13_slip_r2 : GoodIn lw_tbl wsX13_slip_r2 := k_gc wd_553 (k_gc wd_969 (k_gc wd_970 (k_gc wd_971 (k_gc wd_1323 (k_gc wd_1324 (k_gc wd_1325 (k_gc wd_1326 (k_gc wd_1327 (k_gc wd_1328 (k_gc wd_1329 (k_gc wd_1330 (k_gc wd_348 (k_gc wd_93 (k_gc wd_477 (k_gc wd_478 (k_gc wd_479 (k_gc wd_480 k_gn)))))))))))))))))
theorem gp_wsX13_slip : GoodIn lw_tbl wsX13_slip := k_gc wd_1322 (goodIn_app (goodIn_app (goodIn_app (gp_wsX13_slip_r1) (gp_wsX13_slip_r2)) (k_G_wsX130)) (k_G_wsX120))
theorem wd_1331 : kG (Cond.methodLink RL 217 yX13_slip) := ⟨tk_8 _ (List.mem_of_getElem? (i := 116) (by decide +kernel)), Or.inl rfl⟩
theorem wd_1332 : kG (Cond.instanceMethod yX13_slip) := ⟨tk_8 _ (List.mem_of_getElem? (i := 117) (by decide +kernel)), Or.inl rfl⟩
theorem wd_1333 : kG (Cond.selects RX13 yX13_slip yX13_slip) := ⟨tk_8 _ (List.mem_of_getElem? (i := 118) (by decide +kernel)), Or.inl rfl⟩
theorem wd_1334 : kG (Cond.code yX11_turn cX11_turn 3 (some .int)) := ⟨tk_5 _ (List.mem_of_getElem? (i := 52) (by decide +kernel)), Or.inl rfl⟩
theorem gp_wsX11_turn_r1 : GoodIn lw_tbl wsX11_turn_r1 := k_gc wd_15 (k_gc wd_501 (k_gc wd_502 (k_gc wd_503 (k_gc wd_115 (k_gc wd_504 (k_gc wd_126 (k_gc wd_127 (k_gc wd_128 (k_gc wd_129 (k_gc wd_130 (k_gc wd_506 (k_gc wd_299 (k_gc wd_300 (k_gc wd_14 (k_gc wd_301 (k_gc wd_52 (k_gc wd_296 (k_gc wd_297 (k_gc wd_505 (k_gc wd_324 (k_gc wd_325 (k_gc wd_326 (k_gc wd_51 k_gn)))))))))))))))))))))))
theorem wd_1335 : kG (Cond.methodLink RX11 322 yX8_turned) := ⟨tk_5 _ (List.mem_of_getElem? (i := 53) (by decide +kernel)), Or.inl rfl⟩
theorem gp_wsX11_turn_r2 : GoodIn lw_tbl wsX11_turn_r2 := k_gc wd_1335 (k_gc wd_525 (k_gc wd_509 (k_gc wd_526 (k_gc wd_1305 (k_gc wd_1306 (k_gc wd_1307 (k_gc wd_1308 (k_gc wd_19 (k_gc wd_1309 (k_gc wd_1310 (k_gc wd_1311 (k_gc wd_18 (k_gc wd_1312 (k_gc wd_1313 (k_gc wd_56 (k_gc wd_57 (k_gc wd_58 (k_gc wd_1314 (k_gc wd_1315 (k_gc wd_1316 (k_gc wd_1317 (k_gc wd_282 (k_gc wd_283 k_gn)))))))))))))))))))))))
theorem gp_wsX11_turn_r3 : GoodIn lw_tbl wsX11_turn_r3 := k_gc wd_1318 (k_gc wd_279 (k_gc wd_280 (k_gc wd_281 (k_gc wd_329 (k_gc wd_330 (k_gc wd_331 (k_gc wd_332 k_gn)))))))
theorem gp_wsX11_turn : GoodIn lw_tbl wsX11_turn := k_gc wd_1334 (goodIn_app (goodIn_app (goodIn_app (goodIn_app (gp_wsX11_turn_r1) (goodIn_app (gp_wsX11_turn_r2) (gp_wsX11_turn_r3))) (k_G_wsX110)) (k_G_wsX90)) (k_G_wsX00))
theorem wd_1336 : kG (Cond.methodLink RL 218 yX11_turn) := ⟨tk_5 _ (List.mem_of_getElem? (i := 49) (by decide +kernel)), Or.inl rfl⟩
theorem wd_1337 : kG (Cond.instanceMethod yX11_turn) := ⟨tk_5 _ (List.mem_of_getElem? (i := 50) (by decide +kernel)), Or.inl rfl⟩
theorem wd_1338 : kG (Cond.selects RX11 yX11_turn yX11_turn) := ⟨tk_5 _ (List.mem_of_getElem? (i := 51) (by decide +kernel)), Or.inl rfl⟩
theorem wd_1339 : kG (Cond.code yX13_turn cX13_turn 2 (some .int)) := ⟨tk_8 _ (List.mem_of_getElem? (i := 131) (by decide +kernel)), Or.inl rfl⟩
theorem gp_wsX13_turn_r1 : GoodIn lw_tbl wsX13_turn_r1 := k_gc wd_117 (k_gc wd_542 (k_gc wd_543 (k_gc wd_544 (k_gc wd_122 (k_gc wd_545 (k_gc wd_347 (k_gc wd_546 (k_gc wd_547 (k_gc wd_548 (k_gc wd_549 (k_gc wd_92 (k_gc wd_550 (k_gc wd_551 (k_gc wd_552 (k_gc wd_553 (k_gc wd_566 (k_gc wd_567 (k_gc wd_568 (k_gc wd_569 (k_gc wd_570 (k_gc wd_571 (k_gc wd_1323 (k_gc wd_1324 k_gn)))))))))))))))))))))))
theorem gp_wsX13_turn_r2 : GoodIn lw_tbl wsX13_turn_r2 := k_gc wd_1325 (k_gc wd_1326 (k_gc wd_1327 (k_gc wd_1328 (k_gc wd_1329 (k_gc wd_1330 (k_gc wd_348 (k_gc wd_93 (k_gc wd_477 (k_gc wd_478 (k_gc wd_479 (k_gc wd_480 (k_gc wd_345 (k_gc wd_90 (k_gc wd_350 (k_gc wd_351 (k_gc wd_352 (k_gc wd_353 k_gn)))))))))))))))))
theorem gp_wsX13_turn : GoodIn lw_tbl wsX13_turn := k_gc wd_1339 (goodIn_app (goodIn_app (goodIn_app (gp_wsX13_turn_r1) (gp_wsX13_turn_r2)) (k_G_wsX130)) (k_G_wsX120))
theorem wd_1340 : kG (Cond.methodLink RL 221 yX13_turn) := ⟨tk_8 _ (List.mem_of_getElem? (i := 128) (by decide +kernel)), Or.inl rfl⟩
theorem wd_1341 : kG (Cond.instanceMethod yX13_turn) := ⟨tk_8 _ (List.mem_of_getElem? (i := 129) (by decide +kernel)), Or.inl rfl⟩
theorem wd_1342 : kG (Cond.selects RX13 yX13_turn yX13_turn) := ⟨tk_8 _ (List.mem_of_getElem? (i := 130) (by decide +kernel)), Or.inl rfl⟩
theorem wd_1343 : kG (Cond.code yX11_twin cX11_twin 3 (some .int)) := ⟨tk_5 _ (List.mem_of_getElem? (i := 57) (by decide +kernel)), Or.inl rfl⟩
theorem gp_wsX11_twin_r1 : GoodIn lw_tbl wsX11_twin_r1 := k_gc wd_15 (k_gc wd_501 (k_gc wd_502 (k_gc wd_503 (k_gc wd_115 (k_gc wd_504 (k_gc wd_126 (k_gc wd_127 (k_gc wd_128 (k_gc wd_129 (k_gc wd_130 (k_gc wd_506 (k_gc wd_299 (k_gc wd_300 (k_gc wd_14 (k_gc wd_301 (k_gc wd_52 (k_gc wd_296 (k_gc wd_297 (k_gc wd_505 (k_gc wd_324 (k_gc wd_325 (k_gc wd_326 (k_gc wd_51 k_gn)))))))))))))))))))))))
theorem wd_1344 : kG (Cond.methodLink RX11 325 yX8_twinned) := ⟨tk_5 _ (List.mem_of_getElem? (i := 58) (by decide +kernel)), Or.inl rfl⟩
theorem gp_wsX11_twin_r2 : GoodIn lw_tbl wsX11_twin_r2 := k_gc wd_1344 (k_gc wd_883 (k_gc wd_509 (k_gc wd_884 (k_gc wd_885 (k_gc wd_871 (k_gc wd_872 (k_gc wd_1305 (k_gc wd_1306 (k_gc wd_1307 (k_gc wd_1308 (k_gc wd_19 (k_gc wd_1309 (k_gc wd_1310 (k_gc wd_1311 (k_gc wd_18 (k_gc wd_1312 (k_gc wd_1313 (k_gc wd_56 (k_gc wd_57 (k_gc wd_58 (k_gc wd_1314 (k_gc wd_1315 (k_gc wd_1316 k_gn)))))))))))))))))))))))
theorem gp_wsX11_twin_r3 : GoodIn lw_tbl wsX11_twin_r3 := k_gc wd_1317 (k_gc wd_282 (k_gc wd_283 (k_gc wd_1318 (k_gc wd_279 (k_gc wd_280 (k_gc wd_281 (k_gc wd_329 (k_gc wd_330 (k_gc wd_331 (k_gc wd_332 k_gn))))))))))
theorem gp_wsX11_twin : GoodIn lw_tbl wsX11_twin := k_gc wd_1343 (goodIn_app (goodIn_app (goodIn_app (goodIn_app (gp_wsX11_twin_r1) (goodIn_app (gp_wsX11_twin_r2) (gp_wsX11_twin_r3))) (k_G_wsX110)) (k_G_wsX90)) (k_G_wsX00))
theorem wd_1345 : kG (Cond.methodLink RL 222 yX11_twin) := ⟨tk_5 _ (List.mem_of_getElem? (i := 54) (by decide +kernel)), Or.inl rfl⟩
theorem wd_1346 : kG (Cond.instanceMethod yX11_twin) := ⟨tk_5 _ (List.mem_of_getElem? (i := 55) (by decide +kernel)), Or.inl rfl⟩
theorem wd_1347 : kG (Cond.selects RX11 yX11_twin yX11_twin) := ⟨tk_5 _ (List.mem_of_getElem? (i := 56) (by decide +kernel)), Or.inl rfl⟩
theorem wd_1348 : kG (Cond.code yX13_twin cX13_twin 2 (some .int)) := ⟨tk_8 _ (List.mem_of_getElem? (i := 135) (by decide +kernel)), Or.inl rfl⟩
theorem gp_wsX13_twin_r1 : GoodIn lw_tbl wsX13_twin_r1 := k_gc wd_117 (k_gc wd_542 (k_gc wd_543 (k_gc wd_544 (k_gc wd_122 (k_gc wd_545 (k_gc wd_347 (k_gc wd_546 (k_gc wd_547 (k_gc wd_548 (k_gc wd_549 (k_gc wd_92 (k_gc wd_569 (k_gc wd_570 (k_gc wd_571 (k_gc wd_550 (k_gc wd_551 (k_gc wd_552 (k_gc wd_553 (k_gc wd_1323 (k_gc wd_1324 (k_gc wd_1325 (k_gc wd_1326 (k_gc wd_1327 k_gn)))))))))))))))))))))))
theorem gp_wsX13_twin_r2 : GoodIn lw_tbl wsX13_twin_r2 := k_gc wd_1328 (k_gc wd_1329 (k_gc wd_1330 (k_gc wd_348 (k_gc wd_93 (k_gc wd_477 (k_gc wd_478 (k_gc wd_479 (k_gc wd_480 (k_gc wd_345 (k_gc wd_90 (k_gc wd_350 (k_gc wd_351 (k_gc wd_352 (k_gc wd_353 k_gn))))))))))))))
theorem gp_wsX13_twin : GoodIn lw_tbl wsX13_twin := k_gc wd_1348 (goodIn_app (goodIn_app (goodIn_app (gp_wsX13_twin_r1) (gp_wsX13_twin_r2)) (k_G_wsX130)) (k_G_wsX120))
theorem wd_1349 : kG (Cond.methodLink RL 225 yX13_twin) := ⟨tk_8 _ (List.mem_of_getElem? (i := 132) (by decide +kernel)), Or.inl rfl⟩
theorem wd_1350 : kG (Cond.instanceMethod yX13_twin) := ⟨tk_8 _ (List.mem_of_getElem? (i := 133) (by decide +kernel)), Or.inl rfl⟩
theorem wd_1351 : kG (Cond.selects RX13 yX13_twin yX13_twin) := ⟨tk_8 _ (List.mem_of_getElem? (i := 134) (by decide +kernel)), Or.inl rfl⟩
theorem wd_1352 : kG (Cond.code yX11_grow cX11_grow 4 (some .int)) := ⟨tk_5 _ (List.mem_of_getElem? (i := 62) (by decide +kernel)), Or.inl rfl⟩
theorem gp_wsX11_grow_r1 : GoodIn lw_tbl wsX11_grow_r1 := k_gc wd_15 (k_gc wd_501 (k_gc wd_502 (k_gc wd_503 (k_gc wd_115 (k_gc wd_504 (k_gc wd_126 (k_gc wd_127 (k_gc wd_128 (k_gc wd_129 (k_gc wd_130 (k_gc wd_506 (k_gc wd_299 (k_gc wd_300 (k_gc wd_14 (k_gc wd_301 (k_gc wd_52 (k_gc wd_296 (k_gc wd_297 (k_gc wd_505 (k_gc wd_324 (k_gc wd_325 (k_gc wd_326 (k_gc wd_51 k_gn)))))))))))))))))))))))
theorem gp_wsX11_grow_r2 : GoodIn lw_tbl wsX11_grow_r2 := k_gc wd_1305 (k_gc wd_1306 (k_gc wd_1307 (k_gc wd_1308 (k_gc wd_19 (k_gc wd_1309 (k_gc wd_1310 (k_gc wd_1311 (k_gc wd_18 (k_gc wd_1312 (k_gc wd_1313 (k_gc wd_56 (k_gc wd_57 (k_gc wd_58 (k_gc wd_1314 (k_gc wd_1315 (k_gc wd_1316 (k_gc wd_1317 (k_gc wd_282 (k_gc wd_283 (k_gc wd_1318 (k_gc wd_279 (k_gc wd_280 (k_gc wd_281 k_gn)))))))))))))))))))))))
theorem gp_wsX11_grow_r3 : GoodIn lw_tbl wsX11_grow_r3 := k_gc wd_329 (k_gc wd_330 (k_gc wd_331 (k_gc wd_332 k_gn)))
theorem gp_wsX11_grow : GoodIn lw_tbl wsX11_grow := k_gc wd_1352 (goodIn_app (goodIn_app (goodIn_app (goodIn_app (gp_wsX11_grow_r1) (goodIn_app (gp_wsX11_grow_r2) (gp_wsX11_grow_r3))) (k_G_wsX110)) (k_G_wsX90)) (k_G_wsX00))
theorem wd_1353 : kG (Cond.methodLink RL 226 yX11_grow) := ⟨tk_5 _ (List.mem_of_getElem? (i := 59) (by decide +kernel)), Or.inl rfl⟩
theorem wd_1354 : kG (Cond.instanceMethod yX11_grow) := ⟨tk_5 _ (List.mem_of_getElem? (i := 60) (by decide +kernel)), Or.inl rfl⟩
theorem wd_1355 : kG (Cond.selects RX11 yX11_grow yX11_grow) := ⟨tk_5 _ (List.mem_of_getElem? (i := 61) (by decide +kernel)), Or.inl rfl⟩
theorem wd_1356 : kG (Cond.code yX13_grow cX13_grow 3 (some .int)) := ⟨tk_8 _ (List.mem_of_getElem? (i := 139) (by decide +kernel)), Or.inl rfl⟩
theorem gp_wsX13_grow_r1 : GoodIn lw_tbl wsX13_grow_r1 := k_gc wd_117 (k_gc wd_542 (k_gc wd_543 (k_gc wd_544 (k_gc wd_122 (k_gc wd_545 (k_gc wd_347 (k_gc wd_350 (k_gc wd_351 (k_gc wd_352 (k_gc wd_353 (k_gc wd_345 (k_gc wd_90 (k_gc wd_546 (k_gc wd_547 (k_gc wd_548 (k_gc wd_549 (k_gc wd_92 (k_gc wd_550 (k_gc wd_551 (k_gc wd_552 (k_gc wd_553 (k_gc wd_1323 (k_gc wd_1324 k_gn)))))))))))))))))))))))
theorem gp_wsX13_grow_r2 : GoodIn lw_tbl wsX13_grow_r2 := k_gc wd_1325 (k_gc wd_1326 (k_gc wd_1327 (k_gc wd_1328 (k_gc wd_1329 (k_gc wd_1330 (k_gc wd_348 (k_gc wd_93 (k_gc wd_477 (k_gc wd_478 (k_gc wd_479 (k_gc wd_480 k_gn)))))))))))
theorem gp_wsX13_grow : GoodIn lw_tbl wsX13_grow := k_gc wd_1356 (goodIn_app (goodIn_app (goodIn_app (gp_wsX13_grow_r1) (gp_wsX13_grow_r2)) (k_G_wsX130)) (k_G_wsX120))
theorem wd_1357 : kG (Cond.methodLink RL 230 yX13_grow) := ⟨tk_8 _ (List.mem_of_getElem? (i := 136) (by decide +kernel)), Or.inl rfl⟩
theorem wd_1358 : kG (Cond.instanceMethod yX13_grow) := ⟨tk_8 _ (List.mem_of_getElem? (i := 137) (by decide +kernel)), Or.inl rfl⟩
theorem wd_1359 : kG (Cond.selects RX13 yX13_grow yX13_grow) := ⟨tk_8 _ (List.mem_of_getElem? (i := 138) (by decide +kernel)), Or.inl rfl⟩
theorem wd_1360 : kG (Cond.code yX11_cut cX11_cut 3 (some .int)) := ⟨tk_5 _ (List.mem_of_getElem? (i := 66) (by decide +kernel)), Or.inl rfl⟩
theorem gp_wsX11_cut_r1 : GoodIn lw_tbl wsX11_cut_r1 := k_gc wd_15 (k_gc wd_501 (k_gc wd_502 (k_gc wd_503 (k_gc wd_115 (k_gc wd_504 (k_gc wd_126 (k_gc wd_127 (k_gc wd_128 (k_gc wd_129 (k_gc wd_130 (k_gc wd_506 (k_gc wd_299 (k_gc wd_300 (k_gc wd_14 (k_gc wd_301 (k_gc wd_52 (k_gc wd_296 (k_gc wd_297 (k_gc wd_505 (k_gc wd_324 (k_gc wd_325 (k_gc wd_326 (k_gc wd_51 k_gn)))))))))))))))))))))))
theorem gp_wsX11_cut_r2 : GoodIn lw_tbl wsX11_cut_r2 := k_gc wd_1305 (k_gc wd_1306 (k_gc wd_1307 (k_gc wd_1308 (k_gc wd_19 (k_gc wd_1309 (k_gc wd_1310 (k_gc wd_1311 (k_gc wd_18 (k_gc wd_1312 (k_gc wd_1313 (k_gc wd_56 (k_gc wd_57 (k_gc wd_58 (k_gc wd_1314 (k_gc wd_1315 (k_gc wd_1316 (k_gc wd_1317 (k_gc wd_282 (k_gc wd_283 (k_gc wd_1318 (k_gc wd_279 (k_gc wd_280 (k_gc wd_281 k_gn)))))))))))))))))))))))
theorem gp_wsX11_cut_r3 : GoodIn lw_tbl wsX11_cut_r3 := k_gc wd_329 (k_gc wd_330 (k_gc wd_331 (k_gc wd_332 k_gn)))
theorem gp_wsX11_cut : GoodIn lw_tbl wsX11_cut := k_gc wd_1360 (goodIn_app (goodIn_app (goodIn_app (goodIn_app (gp_wsX11_cut_r1) (goodIn_app (gp_wsX11_cut_r2) (gp_wsX11_cut_r3))) (k_G_wsX110)) (k_G_wsX90)) (k_G_wsX00))
theorem wd_1361 : kG (Cond.methodLink RL 231 yX11_cut) := ⟨tk_5 _ (List.mem_of_getElem? (i := 63) (by decide +kernel)), Or.inl rfl⟩
theorem wd_1362 : kG (Cond.instanceMethod yX11_cut) := ⟨tk_5 _ (List.mem_of_getElem? (i := 64) (by decide +kernel)), Or.inl rfl⟩
theorem wd_1363 : kG (Cond.selects RX11 yX11_cut yX11_cut) := ⟨tk_5 _ (List.mem_of_getElem? (i := 65) (by decide +kernel)), Or.inl rfl⟩
theorem wd_1364 : kG (Cond.code yX13_cut cX13_cut 2 (some .int)) := ⟨tk_8 _ (List.mem_of_getElem? (i := 143) (by decide +kernel)), Or.inl rfl⟩
theorem gp_wsX13_cut_r1 : GoodIn lw_tbl wsX13_cut_r1 := k_gc wd_117 (k_gc wd_542 (k_gc wd_543 (k_gc wd_544 (k_gc wd_122 (k_gc wd_545 (k_gc wd_347 (k_gc wd_350 (k_gc wd_351 (k_gc wd_352 (k_gc wd_353 (k_gc wd_345 (k_gc wd_90 (k_gc wd_546 (k_gc wd_547 (k_gc wd_548 (k_gc wd_549 (k_gc wd_92 (k_gc wd_550 (k_gc wd_551 (k_gc wd_552 (k_gc wd_553 (k_gc wd_1323 (k_gc wd_1324 k_gn)))))))))))))))))))))))
theorem gp_wsX13_cut_r2 : GoodIn lw_tbl wsX13_cut_r2 := k_gc wd_1325 (k_gc wd_1326 (k_gc wd_1327 (k_gc wd_1328 (k_gc wd_1329 (k_gc wd_1330 (k_gc wd_348 (k_gc wd_93 (k_gc wd_477 (k_gc wd_478 (k_gc wd_479 (k_gc wd_480 k_gn)))))))))))
theorem gp_wsX13_cut : GoodIn lw_tbl wsX13_cut := k_gc wd_1364 (goodIn_app (goodIn_app (goodIn_app (gp_wsX13_cut_r1) (gp_wsX13_cut_r2)) (k_G_wsX130)) (k_G_wsX120))
theorem wd_1365 : kG (Cond.methodLink RL 234 yX13_cut) := ⟨tk_8 _ (List.mem_of_getElem? (i := 140) (by decide +kernel)), Or.inl rfl⟩
theorem wd_1366 : kG (Cond.instanceMethod yX13_cut) := ⟨tk_8 _ (List.mem_of_getElem? (i := 141) (by decide +kernel)), Or.inl rfl⟩
theorem wd_1367 : kG (Cond.selects RX13 yX13_cut yX13_cut) := ⟨tk_8 _ (List.mem_of_getElem? (i := 142) (by decide +kernel)), Or.inl rfl⟩
theorem wd_1368 : kG (Cond.code yX11_undo cX11_undo 1 (some .boolean)) := ⟨tk_5 _ (List.mem_of_getElem? (i := 70) (by decide +kernel)), Or.inl rfl⟩
theorem wd_1369 : kG (Cond.methodLink RX11 328 yX0_takeBack) := ⟨tk_5 _ (List.mem_of_getElem? (i := 71) (by decide +kernel)), Or.inl rfl⟩
theorem wd_1370 : kG (Cond.instanceMethod yX0_takeBack) := ⟨tk_5 _ (List.mem_of_getElem? (i := 72) (by decide +kernel)), Or.inl rfl⟩
theorem wd_1371 : kG (Cond.selects RX0 yX0_takeBack yX0_takeBack) := ⟨tk_5 _ (List.mem_of_getElem? (i := 73) (by decide +kernel)), Or.inl rfl⟩
theorem wd_1372 : kG (Cond.code yX0_takeBack cX0_takeBack 2 none) := ⟨tk_5 _ (List.mem_of_getElem? (i := 74) (by decide +kernel)), Or.inl rfl⟩
theorem wd_1373 : kG (Cond.methodLink RX0 36 yX9_put) := ⟨tk_5 _ (List.mem_of_getElem? (i := 75) (by decide +kernel)), Or.inl rfl⟩
theorem gp_wsX11_undo : GoodIn lw_tbl wsX11_undo := k_gc wd_1368 (goodIn_app (goodIn_app (goodIn_app (k_gc wd_19 (k_gc wd_130 (k_gc wd_15 (k_gc wd_1369 (k_gc wd_1370 (k_gc wd_1371 (k_gc wd_18 (k_gc wd_1372 (k_gc wd_1313 (k_gc wd_56 (k_gc wd_57 (k_gc wd_58 (k_gc wd_296 (k_gc wd_115 (k_gc wd_297 (k_gc wd_1373 (k_gc wd_279 (k_gc wd_280 (k_gc wd_14 (k_gc wd_281 (k_gc wd_51 (k_gc wd_52 (k_gc wd_282 (k_gc wd_283 k_gn)))))))))))))))))))))))) (k_G_wsX110)) (k_G_wsX00)) (k_G_wsX90))
theorem wd_1374 : kG (Cond.methodLink RL 235 yX11_undo) := ⟨tk_5 _ (List.mem_of_getElem? (i := 67) (by decide +kernel)), Or.inl rfl⟩
theorem wd_1375 : kG (Cond.instanceMethod yX11_undo) := ⟨tk_5 _ (List.mem_of_getElem? (i := 68) (by decide +kernel)), Or.inl rfl⟩
theorem wd_1376 : kG (Cond.selects RX11 yX11_undo yX11_undo) := ⟨tk_5 _ (List.mem_of_getElem? (i := 69) (by decide +kernel)), Or.inl rfl⟩
theorem wd_1377 : kG (Cond.code yX13_undo cX13_undo 2 (some .boolean)) := ⟨tk_8 _ (List.mem_of_getElem? (i := 147) (by decide +kernel)), Or.inl rfl⟩
theorem wd_1378 : kG (Cond.methodLink RX13 448 yX13_denied) := ⟨tk_8 _ (List.mem_of_getElem? (i := 148) (by decide +kernel)), Or.inl rfl⟩
theorem wd_1379 : kG (Cond.instanceMethod yX13_denied) := ⟨tk_8 _ (List.mem_of_getElem? (i := 150) (by decide +kernel)), Or.inl rfl⟩
theorem wd_1380 : kG (Cond.selects RX13 yX13_denied yX13_denied) := ⟨List.mem_of_getElem? (i := 77) (by decide +kernel), Or.inl rfl⟩
theorem wd_1381 : kG (Cond.code yX13_denied cX13_denied 2 (some .boolean)) := ⟨tk_8 _ (List.mem_of_getElem? (i := 151) (by decide +kernel)), Or.inl rfl⟩
theorem wd_1382 : kG (Cond.methodLink RX13 451 yX13_granted) := ⟨tk_8 _ (List.mem_of_getElem? (i := 152) (by decide +kernel)), Or.inl rfl⟩
theorem wd_1383 : kG (Cond.instanceMethod yX13_granted) := ⟨tk_8 _ (List.mem_of_getElem? (i := 154) (by decide +kernel)), Or.inl rfl⟩
theorem wd_1384 : kG (Cond.selects RX13 yX13_granted yX13_granted) := ⟨List.mem_of_getElem? (i := 78) (by decide +kernel), Or.inl rfl⟩
theorem wd_1385 : kG (Cond.code yX13_granted cX13_granted 1 (some .boolean)) := ⟨tk_8 _ (List.mem_of_getElem? (i := 155) (by decide +kernel)), Or.inl rfl⟩
theorem gp_wsX13_undo : GoodIn lw_tbl wsX13_undo := k_gc wd_1377 (goodIn_app (k_gc wd_117 (k_gc wd_347 (k_gc wd_348 (k_gc wd_92 (k_gc wd_93 (k_gc wd_1378 (k_gc wd_1379 (k_gc wd_1380 (k_gc wd_122 (k_gc wd_1381 (k_gc wd_350 (k_gc wd_351 (k_gc wd_352 (k_gc wd_353 (k_gc wd_345 (k_gc wd_90 (k_gc wd_1382 (k_gc wd_1383 (k_gc wd_1384 (k_gc wd_1385 (k_gc wd_477 (k_gc wd_478 (k_gc wd_479 (k_gc wd_480 k_gn)))))))))))))))))))))))) (k_G_wsX130))
theorem wd_1386 : kG (Cond.methodLink RL 239 yX13_undo) := ⟨tk_8 _ (List.mem_of_getElem? (i := 144) (by decide +kernel)), Or.inl rfl⟩
theorem wd_1387 : kG (Cond.instanceMethod yX13_undo) := ⟨tk_8 _ (List.mem_of_getElem? (i := 145) (by decide +kernel)), Or.inl rfl⟩
theorem wd_1388 : kG (Cond.selects RX13 yX13_undo yX13_undo) := ⟨tk_8 _ (List.mem_of_getElem? (i := 146) (by decide +kernel)), Or.inl rfl⟩
theorem wd_1389 : kG (Cond.code yX11_image cX11_image 1 (some .int)) := ⟨tk_5 _ (List.mem_of_getElem? (i := 79) (by decide +kernel)), Or.inl rfl⟩
theorem wd_1390 : kG (Cond.methodLink RX11 331 yX3_keep) := ⟨tk_5 _ (List.mem_of_getElem? (i := 80) (by decide +kernel)), Or.inl rfl⟩
theorem wd_1391 : kG (Cond.instanceMethod yX3_keep) := ⟨tk_5 _ (List.mem_of_getElem? (i := 81) (by decide +kernel)), Or.inl rfl⟩
theorem wd_1392 : kG (Cond.selects RX3 yX3_keep yX3_keep) := ⟨tk_5 _ (List.mem_of_getElem? (i := 82) (by decide +kernel)), Or.inl rfl⟩
theorem wd_1393 : kG (Cond.code yX3_keep cX3_keep 3 (some .int)) := ⟨tk_5 _ (List.mem_of_getElem? (i := 83) (by decide +kernel)), Or.inl rfl⟩
theorem wd_1394 : kG (Cond.fieldLink RX3 18 "ClosePacking$Images" "count" "I") := ⟨tk_1 _ (List.mem_of_getElem? (i := 135) (by decide +kernel)), Or.inl rfl⟩
theorem wd_1395 : kG (Cond.methodLink RX3 22 yX9_row) := ⟨tk_5 _ (List.mem_of_getElem? (i := 84) (by decide +kernel)), Or.inl rfl⟩
theorem gp_wsX11_image_r1 : GoodIn lw_tbl wsX11_image_r1 := k_gc wd_35 (k_gc wd_23 (k_gc wd_15 (k_gc wd_126 (k_gc wd_127 (k_gc wd_128 (k_gc wd_115 (k_gc wd_129 (k_gc wd_130 (k_gc wd_1390 (k_gc wd_1391 (k_gc wd_1392 (k_gc wd_22 (k_gc wd_1393 (k_gc wd_62 (k_gc wd_1394 (k_gc wd_63 (k_gc wd_1395 (k_gc wd_324 (k_gc wd_325 (k_gc wd_14 (k_gc wd_326 (k_gc wd_51 (k_gc wd_296 k_gn)))))))))))))))))))))))
theorem wd_1396 : kG (Cond.methodLink RX3 32 yX9_steps) := ⟨tk_5 _ (List.mem_of_getElem? (i := 86) (by decide +kernel)), Or.inl rfl⟩
theorem gp_wsX11_image_r2 : GoodIn lw_tbl wsX11_image_r2 := k_gc wd_297 (k_gc wd_282 (k_gc wd_283 (k_gc wd_1396 (k_gc wd_299 (k_gc wd_300 (k_gc wd_301 (k_gc wd_52 (k_gc wd_329 (k_gc wd_330 (k_gc wd_331 (k_gc wd_332 k_gn)))))))))))
theorem gp_wsX11_image : GoodIn lw_tbl wsX11_image := k_gc wd_1389 (goodIn_app (goodIn_app (goodIn_app (goodIn_app (goodIn_app (gp_wsX11_image_r1) (gp_wsX11_image_r2)) (k_G_wsX110)) (k_G_wsX40)) (k_G_wsX30)) (k_G_wsX90))
theorem wd_1397 : kG (Cond.methodLink RL 240 yX11_image) := ⟨tk_5 _ (List.mem_of_getElem? (i := 76) (by decide +kernel)), Or.inl rfl⟩
theorem wd_1398 : kG (Cond.instanceMethod yX11_image) := ⟨tk_5 _ (List.mem_of_getElem? (i := 77) (by decide +kernel)), Or.inl rfl⟩
theorem wd_1399 : kG (Cond.selects RX11 yX11_image yX11_image) := ⟨tk_5 _ (List.mem_of_getElem? (i := 78) (by decide +kernel)), Or.inl rfl⟩
theorem wd_1400 : kG (Cond.code yX13_image cX13_image 2 (some .int)) := ⟨tk_8 _ (List.mem_of_getElem? (i := 159) (by decide +kernel)), Or.inl rfl⟩
theorem gp_wsX13_image : GoodIn lw_tbl wsX13_image := k_gc wd_1400 (goodIn_app (k_gc wd_117 (k_gc wd_347 (k_gc wd_349 (k_gc wd_94 (k_gc wd_92 (k_gc wd_350 (k_gc wd_351 (k_gc wd_352 (k_gc wd_122 (k_gc wd_353 (k_gc wd_345 (k_gc wd_90 (k_gc wd_477 (k_gc wd_478 (k_gc wd_479 (k_gc wd_480 k_gn)))))))))))))))) (k_G_wsX130))
theorem wd_1401 : kG (Cond.methodLink RL 243 yX13_image) := ⟨tk_8 _ (List.mem_of_getElem? (i := 156) (by decide +kernel)), Or.inl rfl⟩
theorem wd_1402 : kG (Cond.instanceMethod yX13_image) := ⟨tk_8 _ (List.mem_of_getElem? (i := 157) (by decide +kernel)), Or.inl rfl⟩
theorem wd_1403 : kG (Cond.selects RX13 yX13_image yX13_image) := ⟨tk_8 _ (List.mem_of_getElem? (i := 158) (by decide +kernel)), Or.inl rfl⟩
theorem wd_1404 : kG (Cond.code yX11_back cX11_back 2 (some .boolean)) := ⟨tk_5 _ (List.mem_of_getElem? (i := 90) (by decide +kernel)), Or.inl rfl⟩
theorem wd_1405 : kG (Cond.methodLink RX11 335 yX3_bring) := ⟨tk_5 _ (List.mem_of_getElem? (i := 91) (by decide +kernel)), Or.inl rfl⟩
theorem wd_1406 : kG (Cond.instanceMethod yX3_bring) := ⟨tk_5 _ (List.mem_of_getElem? (i := 92) (by decide +kernel)), Or.inl rfl⟩
theorem wd_1407 : kG (Cond.selects RX3 yX3_bring yX3_bring) := ⟨tk_5 _ (List.mem_of_getElem? (i := 93) (by decide +kernel)), Or.inl rfl⟩
theorem wd_1408 : kG (Cond.code yX3_bring cX3_bring 4 none) := ⟨tk_5 _ (List.mem_of_getElem? (i := 94) (by decide +kernel)), Or.inl rfl⟩
theorem wd_1409 : kG (Cond.methodLink RX3 39 yX9_put) := ⟨tk_5 _ (List.mem_of_getElem? (i := 96) (by decide +kernel)), Or.inl rfl⟩
theorem gp_wsX11_back : GoodIn lw_tbl wsX11_back := k_gc wd_1404 (goodIn_app (goodIn_app (goodIn_app (goodIn_app (k_gc wd_23 (k_gc wd_130 (k_gc wd_15 (k_gc wd_19 (k_gc wd_1405 (k_gc wd_1406 (k_gc wd_1407 (k_gc wd_22 (k_gc wd_1408 (k_gc wd_62 (k_gc wd_63 (k_gc wd_296 (k_gc wd_115 (k_gc wd_297 (k_gc wd_1409 (k_gc wd_279 (k_gc wd_280 (k_gc wd_14 (k_gc wd_281 (k_gc wd_51 (k_gc wd_52 (k_gc wd_282 (k_gc wd_283 k_gn))))))))))))))))))))))) (k_G_wsX110)) (k_G_wsX30)) (k_G_wsX00)) (k_G_wsX90))
theorem wd_1410 : kG (Cond.methodLink RL 244 yX11_back) := ⟨tk_5 _ (List.mem_of_getElem? (i := 87) (by decide +kernel)), Or.inl rfl⟩
theorem wd_1411 : kG (Cond.instanceMethod yX11_back) := ⟨tk_5 _ (List.mem_of_getElem? (i := 88) (by decide +kernel)), Or.inl rfl⟩
theorem wd_1412 : kG (Cond.selects RX11 yX11_back yX11_back) := ⟨tk_5 _ (List.mem_of_getElem? (i := 89) (by decide +kernel)), Or.inl rfl⟩
theorem wd_1413 : kG (Cond.code yX13_back cX13_back 3 (some .boolean)) := ⟨tk_8 _ (List.mem_of_getElem? (i := 163) (by decide +kernel)), Or.inl rfl⟩
theorem gp_wsX13_back_r1 : GoodIn lw_tbl wsX13_back_r1 := k_gc wd_117 (k_gc wd_347 (k_gc wd_349 (k_gc wd_92 (k_gc wd_94 (k_gc wd_348 (k_gc wd_1378 (k_gc wd_1379 (k_gc wd_1380 (k_gc wd_122 (k_gc wd_1381 (k_gc wd_350 (k_gc wd_351 (k_gc wd_352 (k_gc wd_353 (k_gc wd_345 (k_gc wd_90 (k_gc wd_1382 (k_gc wd_1383 (k_gc wd_1384 (k_gc wd_1385 (k_gc wd_477 (k_gc wd_478 (k_gc wd_479 k_gn)))))))))))))))))))))))
theorem gp_wsX13_back_r2 : GoodIn lw_tbl wsX13_back_r2 := k_gc wd_480 k_gn
theorem gp_wsX13_back : GoodIn lw_tbl wsX13_back := k_gc wd_1413 (goodIn_app (goodIn_app (gp_wsX13_back_r1) (gp_wsX13_back_r2)) (k_G_wsX130))
theorem wd_1414 : kG (Cond.methodLink RL 248 yX13_back) := ⟨tk_8 _ (List.mem_of_getElem? (i := 160) (by decide +kernel)), Or.inl rfl⟩
theorem wd_1415 : kG (Cond.instanceMethod yX13_back) := ⟨tk_8 _ (List.mem_of_getElem? (i := 161) (by decide +kernel)), Or.inl rfl⟩
theorem wd_1416 : kG (Cond.selects RX13 yX13_back yX13_back) := ⟨tk_8 _ (List.mem_of_getElem? (i := 162) (by decide +kernel)), Or.inl rfl⟩
theorem wd_1417 : kG (Cond.codeWith yL_led cL_led 4 (some .int) [(0, 9, 12, 13)]) := ⟨tk_5 _ (List.mem_of_getElem? (i := 107) (by decide +kernel)), Or.inl rfl⟩
theorem wd_1418 : kG (Cond.classLink RL 13 "java/util/NoSuchElementException") := ⟨tk_5 _ (List.mem_of_getElem? (i := 108) (by decide +kernel)), Or.inl rfl⟩
theorem wd_1419 : kG (Cond.methodLink RL 7 yX11_led) := ⟨tk_5 _ (List.mem_of_getElem? (i := 109) (by decide +kernel)), Or.inl rfl⟩
theorem wd_1420 : kG (Cond.instanceMethod yX11_led) := ⟨tk_5 _ (List.mem_of_getElem? (i := 110) (by decide +kernel)), Or.inl rfl⟩
theorem wd_1421 : kG (Cond.selects RX11 yX11_led yX11_led) := ⟨tk_5 _ (List.mem_of_getElem? (i := 111) (by decide +kernel)), Or.inl rfl⟩
theorem wd_1422 : kG (Cond.code yX11_led cX11_led 4 (some .int)) := ⟨tk_5 _ (List.mem_of_getElem? (i := 112) (by decide +kernel)), Or.inl rfl⟩
theorem wd_1423 : kG (Cond.classLink RX11 344 "java/util/NoSuchElementException") := ⟨tk_5 _ (List.mem_of_getElem? (i := 113) (by decide +kernel)), Or.inl rfl⟩
theorem wd_1424 : kG (Cond.initialized "java/util/NoSuchElementException") := ⟨tk_1 _ (List.mem_of_getElem? (i := 24) (by decide +kernel)), Or.inl rfl⟩
theorem gp_wsL_led_r1 : GoodIn lw_tbl wsL_led_r1 := k_gc wd_1418 (k_gc wd_1419 (k_gc wd_1420 (k_gc wd_1421 (k_gc wd_115 (k_gc wd_1422 (k_gc wd_1423 (k_gc wd_1424 (k_gc wd_15 (k_gc wd_505 (k_gc wd_324 (k_gc wd_325 (k_gc wd_14 (k_gc wd_326 (k_gc wd_51 (k_gc wd_296 (k_gc wd_297 (k_gc wd_506 (k_gc wd_299 (k_gc wd_300 (k_gc wd_301 (k_gc wd_52 (k_gc wd_873 (k_gc wd_874 k_gn)))))))))))))))))))))))
theorem gp_wsL_led_r2 : GoodIn lw_tbl wsL_led_r2 := k_gc wd_509 (k_gc wd_875 (k_gc wd_511 (k_gc wd_512 (k_gc wd_513 (k_gc wd_514 (k_gc wd_515 (k_gc wd_516 (k_gc wd_517 (k_gc wd_518 (k_gc wd_519 (k_gc wd_520 k_gn)))))))))))
theorem gp_wsL_led : GoodIn lw_tbl wsL_led := k_gc wd_1417 (goodIn_app (goodIn_app (goodIn_app (goodIn_app (gp_wsL_led_r1) (gp_wsL_led_r2)) (k_G_wsX110)) (k_G_wsX90)) (k_G_wN))
theorem wd_1425 : kG (Cond.methodLink RL 249 yL_led) := ⟨tk_5 _ (List.mem_of_getElem? (i := 105) (by decide +kernel)), Or.inl rfl⟩
theorem wd_1426 : kG (Cond.static yL_led) := ⟨tk_5 _ (List.mem_of_getElem? (i := 106) (by decide +kernel)), Or.inl rfl⟩
theorem wd_1427 : kG (Cond.initialized RL) := ⟨tk_1 _ (List.mem_of_getElem? (i := 0) (by decide +kernel)), Or.inl rfl⟩
theorem wd_1428 : kG (Cond.code yX13_led cX13_led 4 (some .int)) := ⟨tk_8 _ (List.mem_of_getElem? (i := 167) (by decide +kernel)), Or.inl rfl⟩
theorem gp_wsX13_led : GoodIn lw_tbl wsX13_led := k_gc wd_1428 (goodIn_app (goodIn_app (k_gc wd_117 (k_gc wd_347 (k_gc wd_550 (k_gc wd_551 (k_gc wd_552 (k_gc wd_122 (k_gc wd_553 (k_gc wd_92 (k_gc wd_546 (k_gc wd_547 (k_gc wd_548 (k_gc wd_549 (k_gc wd_554 (k_gc wd_555 (k_gc wd_556 (k_gc wd_557 (k_gc wd_558 (k_gc wd_559 (k_gc wd_560 (k_gc wd_561 (k_gc wd_562 k_gn))))))))))))))))))))) (k_G_wsX130)) (k_G_wsX120))
theorem wd_1429 : kG (Cond.methodLink RL 254 yX13_led) := ⟨tk_8 _ (List.mem_of_getElem? (i := 164) (by decide +kernel)), Or.inl rfl⟩
theorem wd_1430 : kG (Cond.instanceMethod yX13_led) := ⟨tk_8 _ (List.mem_of_getElem? (i := 165) (by decide +kernel)), Or.inl rfl⟩
theorem wd_1431 : kG (Cond.selects RX13 yX13_led yX13_led) := ⟨tk_8 _ (List.mem_of_getElem? (i := 166) (by decide +kernel)), Or.inl rfl⟩
theorem wd_1432 : kG (Cond.code yX13_thrown cX13_thrown 1 (some .int)) := ⟨tk_6 _ (List.mem_of_getElem? (i := 62) (by decide +kernel)), Or.inl rfl⟩
theorem gp_wsX13_thrown : GoodIn lw_tbl wsX13_thrown := k_gc wd_1432 (goodIn_app (k_gc wd_117 k_gn) (k_G_wsX130))
theorem wd_1433 : kG (Cond.methodLink RL 255 yX13_thrown) := ⟨tk_6 _ (List.mem_of_getElem? (i := 59) (by decide +kernel)), Or.inl rfl⟩
theorem wd_1434 : kG (Cond.instanceMethod yX13_thrown) := ⟨tk_6 _ (List.mem_of_getElem? (i := 60) (by decide +kernel)), Or.inl rfl⟩
theorem wd_1435 : kG (Cond.selects RX13 yX13_thrown yX13_thrown) := ⟨tk_6 _ (List.mem_of_getElem? (i := 61) (by decide +kernel)), Or.inl rfl⟩
theorem wd_1436 : kG (Cond.code yX11_size cX11_size 2 (some .int)) := ⟨tk_5 _ (List.mem_of_getElem? (i := 100) (by decide +kernel)), Or.inl rfl⟩
theorem gp_wsX11_size : GoodIn lw_tbl wsX11_size := k_gc wd_1436 (goodIn_app (goodIn_app (goodIn_app (goodIn_app (goodIn_app (goodIn_app (k_gc wd_35 (k_gc wd_15 (k_gc wd_19 (k_gc wd_23 (k_gc wd_7 k_gn))))) (k_G_wsX110)) (k_G_wsX40)) (k_G_wsX90)) (k_G_wsX00)) (k_G_wsX30)) (k_G_wsX100))
theorem wd_1437 : kG (Cond.methodLink RL 258 yX11_size) := ⟨tk_5 _ (List.mem_of_getElem? (i := 97) (by decide +kernel)), Or.inl rfl⟩
theorem wd_1438 : kG (Cond.instanceMethod yX11_size) := ⟨tk_5 _ (List.mem_of_getElem? (i := 98) (by decide +kernel)), Or.inl rfl⟩
theorem wd_1439 : kG (Cond.selects RX11 yX11_size yX11_size) := ⟨tk_5 _ (List.mem_of_getElem? (i := 99) (by decide +kernel)), Or.inl rfl⟩
theorem wd_1440 : kG (Cond.code yX13_size cX13_size 2 (some .int)) := ⟨tk_8 _ (List.mem_of_getElem? (i := 171) (by decide +kernel)), Or.inl rfl⟩
theorem gp_wsX13_size : GoodIn lw_tbl wsX13_size := k_gc wd_1440 (goodIn_app (goodIn_app (k_gc wd_117 (k_gc wd_118 (k_gc wd_347 (k_gc wd_348 (k_gc wd_349 (k_gc wd_435 (k_gc wd_436 (k_gc wd_122 (k_gc wd_437 k_gn))))))))) (k_G_wsX130)) (k_G_wsX120))
theorem wd_1441 : kG (Cond.methodLink RL 261 yX13_size) := ⟨tk_8 _ (List.mem_of_getElem? (i := 168) (by decide +kernel)), Or.inl rfl⟩
theorem wd_1442 : kG (Cond.instanceMethod yX13_size) := ⟨tk_8 _ (List.mem_of_getElem? (i := 169) (by decide +kernel)), Or.inl rfl⟩
theorem wd_1443 : kG (Cond.selects RX13 yX13_size yX13_size) := ⟨tk_8 _ (List.mem_of_getElem? (i := 170) (by decide +kernel)), Or.inl rfl⟩
theorem wd_1444 : kG (Cond.code yX11_trouble cX11_trouble 1 (some .int)) := ⟨tk_5 _ (List.mem_of_getElem? (i := 104) (by decide +kernel)), Or.inl rfl⟩
theorem gp_wsX11_trouble : GoodIn lw_tbl wsX11_trouble := k_gc wd_1444 (goodIn_app (k_gc wd_130 k_gn) (k_G_wsX110))
theorem wd_1445 : kG (Cond.methodLink RL 262 yX11_trouble) := ⟨tk_5 _ (List.mem_of_getElem? (i := 101) (by decide +kernel)), Or.inl rfl⟩
theorem wd_1446 : kG (Cond.instanceMethod yX11_trouble) := ⟨tk_5 _ (List.mem_of_getElem? (i := 102) (by decide +kernel)), Or.inl rfl⟩
theorem wd_1447 : kG (Cond.selects RX11 yX11_trouble yX11_trouble) := ⟨tk_5 _ (List.mem_of_getElem? (i := 103) (by decide +kernel)), Or.inl rfl⟩
theorem wd_1448 : kG (Cond.code yX13_trouble cX13_trouble 1 (some .int)) := ⟨tk_8 _ (List.mem_of_getElem? (i := 175) (by decide +kernel)), Or.inl rfl⟩
theorem gp_wsX13_trouble : GoodIn lw_tbl wsX13_trouble := k_gc wd_1448 (goodIn_app (k_gc wd_117 (k_gc wd_345 k_gn)) (k_G_wsX130))
theorem wd_1449 : kG (Cond.methodLink RL 265 yX13_trouble) := ⟨tk_8 _ (List.mem_of_getElem? (i := 172) (by decide +kernel)), Or.inl rfl⟩
theorem wd_1450 : kG (Cond.instanceMethod yX13_trouble) := ⟨tk_8 _ (List.mem_of_getElem? (i := 173) (by decide +kernel)), Or.inl rfl⟩
theorem wd_1451 : kG (Cond.selects RX13 yX13_trouble yX13_trouble) := ⟨tk_8 _ (List.mem_of_getElem? (i := 174) (by decide +kernel)), Or.inl rfl⟩
theorem gL_law_X11_init : GoodIn lw_tbl (wsX11_init) := gp_wsX11_init
theorem gL_law_X13_init : GoodIn lw_tbl (wsX13_init) := gp_wsX13_init
theorem gL_law_X11_feed : GoodIn lw_tbl (wsV RL 19 RX11 yX11_feed wsX11_feed) := goodIn_app (k_gc wd_112 (k_gc wd_113 (k_gc wd_114 (k_gc wd_115 k_gn)))) (gp_wsX11_feed)
theorem gL_law_X13_feed : GoodIn lw_tbl (wsV RL 23 RX13 yX13_feed wsX13_feed) := goodIn_app (k_gc wd_119 (k_gc wd_120 (k_gc wd_121 (k_gc wd_122 k_gn)))) (gp_wsX13_feed)
theorem gL_law_X11_lab : GoodIn lw_tbl (wsV RL 24 RX11 yX11_lab wsX11_lab) := goodIn_app (k_gc wd_333 (k_gc wd_334 (k_gc wd_335 (k_gc wd_115 k_gn)))) (gp_wsX11_lab)
theorem gL_law_X13_lab : GoodIn lw_tbl (wsV RL 27 RX13 yX13_lab wsX13_lab) := goodIn_app (k_gc wd_481 (k_gc wd_482 (k_gc wd_483 (k_gc wd_122 k_gn)))) (gp_wsX13_lab)
theorem gL_law_X11_fault : GoodIn lw_tbl (wsV RL 28 RX11 yX11_fault wsX11_fault) := goodIn_app (k_gc wd_485 (k_gc wd_486 (k_gc wd_487 (k_gc wd_115 k_gn)))) (gp_wsX11_fault)
theorem gL_law_X13_fault : GoodIn lw_tbl (wsV RL 32 RX13 yX13_fault wsX13_fault) := goodIn_app (k_gc wd_489 (k_gc wd_490 (k_gc wd_491 (k_gc wd_122 k_gn)))) (gp_wsX13_fault)
theorem gL_law_X11_where : GoodIn lw_tbl (wsV RL 33 RX11 yX11_where wsX11_where) := goodIn_app (k_gc wd_493 (k_gc wd_494 (k_gc wd_495 (k_gc wd_115 k_gn)))) (gp_wsX11_where)
theorem gL_law_X13_where : GoodIn lw_tbl (wsV RL 36 RX13 yX13_where wsX13_where) := goodIn_app (k_gc wd_497 (k_gc wd_498 (k_gc wd_499 (k_gc wd_122 k_gn)))) (gp_wsX13_where)
theorem gL_law_X11_stack : GoodIn lw_tbl (wsV RL 37 RX11 yX11_stack wsX11_stack) := goodIn_app (k_gc wd_538 (k_gc wd_539 (k_gc wd_540 (k_gc wd_115 k_gn)))) (gp_wsX11_stack)
theorem gL_law_X13_stack : GoodIn lw_tbl (wsV RL 41 RX13 yX13_stack wsX13_stack) := goodIn_app (k_gc wd_584 (k_gc wd_585 (k_gc wd_586 (k_gc wd_122 k_gn)))) (gp_wsX13_stack)
theorem gL_law_X11_sum : GoodIn lw_tbl (wsV RL 42 RX11 yX11_sum wsX11_sum) := goodIn_app (k_gc wd_589 (k_gc wd_590 (k_gc wd_591 (k_gc wd_115 k_gn)))) (gp_wsX11_sum)
theorem gL_law_X13_sum : GoodIn lw_tbl (wsV RL 45 RX13 yX13_sum wsX13_sum) := goodIn_app (k_gc wd_597 (k_gc wd_598 (k_gc wd_599 (k_gc wd_122 k_gn)))) (gp_wsX13_sum)
theorem gL_law_X11_layer : GoodIn lw_tbl (wsV RL 46 RX11 yX11_layer wsX11_layer) := goodIn_app (k_gc wd_610 (k_gc wd_611 (k_gc wd_612 (k_gc wd_115 k_gn)))) (gp_wsX11_layer)
theorem gL_law_X13_layer : GoodIn lw_tbl (wsV RL 49 RX13 yX13_layer wsX13_layer) := goodIn_app (k_gc wd_618 (k_gc wd_619 (k_gc wd_620 (k_gc wd_122 k_gn)))) (gp_wsX13_layer)
theorem gL_law_X11_hex : GoodIn lw_tbl (wsV RL 50 RX11 yX11_hex wsX11_hex) := goodIn_app (k_gc wd_628 (k_gc wd_629 (k_gc wd_630 (k_gc wd_115 k_gn)))) (gp_wsX11_hex)
theorem gL_law_X13_hex : GoodIn lw_tbl (wsV RL 53 RX13 yX13_hex wsX13_hex) := goodIn_app (k_gc wd_632 (k_gc wd_633 (k_gc wd_634 (k_gc wd_122 k_gn)))) (gp_wsX13_hex)
theorem gL_law_X11_run : GoodIn lw_tbl (wsV RL 54 RX11 yX11_run wsX11_run) := goodIn_app (k_gc wd_643 (k_gc wd_644 (k_gc wd_645 (k_gc wd_115 k_gn)))) (gp_wsX11_run)
theorem gL_law_X13_run : GoodIn lw_tbl (wsV RL 57 RX13 yX13_run wsX13_run) := goodIn_app (k_gc wd_647 (k_gc wd_648 (k_gc wd_649 (k_gc wd_122 k_gn)))) (gp_wsX13_run)
theorem gL_law_X11_agree : GoodIn lw_tbl (wsV RL 58 RX11 yX11_agree wsX11_agree) := goodIn_app (k_gc wd_657 (k_gc wd_658 (k_gc wd_659 (k_gc wd_115 k_gn)))) (gp_wsX11_agree)
theorem gL_law_X13_agree : GoodIn lw_tbl (wsV RL 61 RX13 yX13_agree wsX13_agree) := goodIn_app (k_gc wd_665 (k_gc wd_666 (k_gc wd_667 (k_gc wd_122 k_gn)))) (gp_wsX13_agree)
theorem gL_law_X11_share : GoodIn lw_tbl (wsV RL 62 RX11 yX11_share wsX11_share) := goodIn_app (k_gc wd_679 (k_gc wd_680 (k_gc wd_681 (k_gc wd_115 k_gn)))) (gp_wsX11_share)
theorem gL_law_X13_share : GoodIn lw_tbl (wsV RL 66 RX13 yX13_share wsX13_share) := goodIn_app (k_gc wd_690 (k_gc wd_691 (k_gc wd_692 (k_gc wd_122 k_gn)))) (gp_wsX13_share)
theorem gL_law_X11_energy : GoodIn lw_tbl (wsV RL 67 RX11 yX11_energy wsX11_energy) := goodIn_app (k_gc wd_707 (k_gc wd_708 (k_gc wd_709 (k_gc wd_115 k_gn)))) (gp_wsX11_energy)
theorem gL_law_X13_energy : GoodIn lw_tbl (wsV RL 70 RX13 yX13_energy wsX13_energy) := goodIn_app (k_gc wd_716 (k_gc wd_717 (k_gc wd_718 (k_gc wd_122 k_gn)))) (gp_wsX13_energy)
theorem gL_law_X11_calmest : GoodIn lw_tbl (wsV RL 71 RX11 yX11_calmest wsX11_calmest) := goodIn_app (k_gc wd_720 (k_gc wd_721 (k_gc wd_722 (k_gc wd_115 k_gn)))) (gp_wsX11_calmest)
theorem gL_law_X13_calmest : GoodIn lw_tbl (wsV RL 74 RX13 yX13_calmest wsX13_calmest) := goodIn_app (k_gc wd_724 (k_gc wd_725 (k_gc wd_726 (k_gc wd_122 k_gn)))) (gp_wsX13_calmest)
theorem gL_law_X11_out : GoodIn lw_tbl (wsV RL 75 RX11 yX11_out wsX11_out) := goodIn_app (k_gc wd_749 (k_gc wd_750 (k_gc wd_751 (k_gc wd_115 k_gn)))) (gp_wsX11_out)
theorem gL_law_X13_out : GoodIn lw_tbl (wsV RL 78 RX13 yX13_out wsX13_out) := goodIn_app (k_gc wd_761 (k_gc wd_762 (k_gc wd_763 (k_gc wd_122 k_gn)))) (gp_wsX13_out)
theorem gL_law_X11_outs : GoodIn lw_tbl (wsV RL 79 RX11 yX11_outs wsX11_outs) := goodIn_app (k_gc wd_765 (k_gc wd_766 (k_gc wd_767 (k_gc wd_115 k_gn)))) (gp_wsX11_outs)
theorem gL_law_X13_outs : GoodIn lw_tbl (wsV RL 82 RX13 yX13_outs wsX13_outs) := goodIn_app (k_gc wd_769 (k_gc wd_770 (k_gc wd_771 (k_gc wd_122 k_gn)))) (gp_wsX13_outs)
theorem gL_law_X11_firstLine : GoodIn lw_tbl (wsV RL 83 RX11 yX11_firstLine wsX11_firstLine) := goodIn_app (k_gc wd_773 (k_gc wd_774 (k_gc wd_775 (k_gc wd_115 k_gn)))) (gp_wsX11_firstLine)
theorem gL_law_X13_firstLine : GoodIn lw_tbl (wsV RL 86 RX13 yX13_firstLine wsX13_firstLine) := goodIn_app (k_gc wd_777 (k_gc wd_778 (k_gc wd_779 (k_gc wd_122 k_gn)))) (gp_wsX13_firstLine)
theorem gL_law_X11_sameLines : GoodIn lw_tbl (wsV RL 87 RX11 yX11_sameLines wsX11_sameLines) := goodIn_app (k_gc wd_781 (k_gc wd_782 (k_gc wd_783 (k_gc wd_115 k_gn)))) (gp_wsX11_sameLines)
theorem gL_law_X13_sameLines : GoodIn lw_tbl (wsV RL 90 RX13 yX13_sameLines wsX13_sameLines) := goodIn_app (k_gc wd_789 (k_gc wd_790 (k_gc wd_791 (k_gc wd_122 k_gn)))) (gp_wsX13_sameLines)
theorem gL_law_X11_ground : GoodIn lw_tbl (wsV RL 91 RX11 yX11_ground wsX11_ground) := goodIn_app (k_gc wd_815 (k_gc wd_816 (k_gc wd_817 (k_gc wd_115 k_gn)))) (gp_wsX11_ground)
theorem gL_law_X13_ground : GoodIn lw_tbl (wsV RL 94 RX13 yX13_ground wsX13_ground) := goodIn_app (k_gc wd_830 (k_gc wd_831 (k_gc wd_832 (k_gc wd_122 k_gn)))) (gp_wsX13_ground)
theorem gL_law_X11_groundRow : GoodIn lw_tbl (wsV RL 95 RX11 yX11_groundRow wsX11_groundRow) := goodIn_app (k_gc wd_838 (k_gc wd_839 (k_gc wd_840 (k_gc wd_115 k_gn)))) (gp_wsX11_groundRow)
theorem gL_law_X13_groundRow : GoodIn lw_tbl (wsV RL 98 RX13 yX13_groundRow wsX13_groundRow) := goodIn_app (k_gc wd_842 (k_gc wd_843 (k_gc wd_844 (k_gc wd_122 k_gn)))) (gp_wsX13_groundRow)
theorem gL_law_X11_groundMany : GoodIn lw_tbl (wsV RL 99 RX11 yX11_groundMany wsX11_groundMany) := goodIn_app (k_gc wd_851 (k_gc wd_852 (k_gc wd_853 (k_gc wd_115 k_gn)))) (gp_wsX11_groundMany)
theorem gL_law_X13_groundMany : GoodIn lw_tbl (wsV RL 102 RX13 yX13_groundMany wsX13_groundMany) := goodIn_app (k_gc wd_855 (k_gc wd_856 (k_gc wd_857 (k_gc wd_122 k_gn)))) (gp_wsX13_groundMany)
theorem gL_law_X11_groundBest : GoodIn lw_tbl (wsV RL 103 RX11 yX11_groundBest wsX11_groundBest) := goodIn_app (k_gc wd_859 (k_gc wd_860 (k_gc wd_861 (k_gc wd_115 k_gn)))) (gp_wsX11_groundBest)
theorem gL_law_X13_groundBest : GoodIn lw_tbl (wsV RL 106 RX13 yX13_groundBest wsX13_groundBest) := goodIn_app (k_gc wd_863 (k_gc wd_864 (k_gc wd_865 (k_gc wd_122 k_gn)))) (gp_wsX13_groundBest)
theorem gL_law_X11_kinds : GoodIn lw_tbl (wsV RL 107 RX11 yX11_kinds wsX11_kinds) := goodIn_app (k_gc wd_892 (k_gc wd_893 (k_gc wd_894 (k_gc wd_115 k_gn)))) (gp_wsX11_kinds)
theorem gL_law_X13_kinds : GoodIn lw_tbl (wsV RL 111 RX13 yX13_kinds wsX13_kinds) := goodIn_app (k_gc wd_908 (k_gc wd_909 (k_gc wd_910 (k_gc wd_122 k_gn)))) (gp_wsX13_kinds)
theorem gL_law_X11_alike : GoodIn lw_tbl (wsV RL 112 RX11 yX11_alike wsX11_alike) := goodIn_app (k_gc wd_919 (k_gc wd_920 (k_gc wd_921 (k_gc wd_115 k_gn)))) (gp_wsX11_alike)
theorem gL_law_X13_alike : GoodIn lw_tbl (wsV RL 116 RX13 yX13_alike wsX13_alike) := goodIn_app (k_gc wd_927 (k_gc wd_928 (k_gc wd_929 (k_gc wd_122 k_gn)))) (gp_wsX13_alike)
theorem gL_law_X11_least : GoodIn lw_tbl (wsV RL 117 RX11 yX11_least wsX11_least) := goodIn_app (k_gc wd_931 (k_gc wd_932 (k_gc wd_933 (k_gc wd_115 k_gn)))) (gp_wsX11_least)
theorem gL_law_X13_least : GoodIn lw_tbl (wsV RL 120 RX13 yX13_least wsX13_least) := goodIn_app (k_gc wd_935 (k_gc wd_936 (k_gc wd_937 (k_gc wd_122 k_gn)))) (gp_wsX13_least)
theorem gL_law_X11_manyAlike : GoodIn lw_tbl (wsV RL 121 RX11 yX11_manyAlike wsX11_manyAlike) := goodIn_app (k_gc wd_943 (k_gc wd_944 (k_gc wd_945 (k_gc wd_115 k_gn)))) (gp_wsX11_manyAlike)
theorem gL_law_X13_manyAlike : GoodIn lw_tbl (wsV RL 124 RX13 yX13_manyAlike wsX13_manyAlike) := goodIn_app (k_gc wd_947 (k_gc wd_948 (k_gc wd_949 (k_gc wd_122 k_gn)))) (gp_wsX13_manyAlike)
theorem gL_law_X11_slips : GoodIn lw_tbl (wsV RL 125 RX11 yX11_slips wsX11_slips) := goodIn_app (k_gc wd_954 (k_gc wd_955 (k_gc wd_956 (k_gc wd_115 k_gn)))) (gp_wsX11_slips)
theorem gL_law_X13_slips : GoodIn lw_tbl (wsV RL 128 RX13 yX13_slips wsX13_slips) := goodIn_app (k_gc wd_958 (k_gc wd_959 (k_gc wd_960 (k_gc wd_122 k_gn)))) (gp_wsX13_slips)
theorem gL_law_X11_slipEnergy : GoodIn lw_tbl (wsV RL 129 RX11 yX11_slipEnergy wsX11_slipEnergy) := goodIn_app (k_gc wd_965 (k_gc wd_966 (k_gc wd_967 (k_gc wd_115 k_gn)))) (gp_wsX11_slipEnergy)
theorem gL_law_X13_slipEnergy : GoodIn lw_tbl (wsV RL 132 RX13 yX13_slipEnergy wsX13_slipEnergy) := goodIn_app (k_gc wd_972 (k_gc wd_973 (k_gc wd_974 (k_gc wd_122 k_gn)))) (gp_wsX13_slipEnergy)
theorem gL_law_X11_weakest : GoodIn lw_tbl (wsV RL 133 RX11 yX11_weakest wsX11_weakest) := goodIn_app (k_gc wd_982 (k_gc wd_983 (k_gc wd_984 (k_gc wd_115 k_gn)))) (gp_wsX11_weakest)
theorem gL_law_X13_weakest : GoodIn lw_tbl (wsV RL 136 RX13 yX13_weakest wsX13_weakest) := goodIn_app (k_gc wd_990 (k_gc wd_991 (k_gc wd_992 (k_gc wd_122 k_gn)))) (gp_wsX13_weakest)
theorem gL_law_X11_relax : GoodIn lw_tbl (wsV RL 137 RX11 yX11_relax wsX11_relax) := goodIn_app (k_gc wd_1002 (k_gc wd_1003 (k_gc wd_1004 (k_gc wd_115 k_gn)))) (gp_wsX11_relax)
theorem gL_law_X13_relax : GoodIn lw_tbl (wsV RL 140 RX13 yX13_relax wsX13_relax) := goodIn_app (k_gc wd_1011 (k_gc wd_1012 (k_gc wd_1013 (k_gc wd_122 k_gn)))) (gp_wsX13_relax)
theorem gL_law_X11_relaxed : GoodIn lw_tbl (wsV RL 141 RX11 yX11_relaxed wsX11_relaxed) := goodIn_app (k_gc wd_1015 (k_gc wd_1016 (k_gc wd_1017 (k_gc wd_115 k_gn)))) (gp_wsX11_relaxed)
theorem gL_law_X13_relaxed : GoodIn lw_tbl (wsV RL 144 RX13 yX13_relaxed wsX13_relaxed) := goodIn_app (k_gc wd_1019 (k_gc wd_1020 (k_gc wd_1021 (k_gc wd_122 k_gn)))) (gp_wsX13_relaxed)
theorem gL_law_X11_pass : GoodIn lw_tbl (wsV RL 145 RX11 yX11_pass wsX11_pass) := goodIn_app (k_gc wd_1039 (k_gc wd_1040 (k_gc wd_1041 (k_gc wd_115 k_gn)))) (gp_wsX11_pass)
theorem gL_law_X13_pass : GoodIn lw_tbl (wsV RL 148 RX13 yX13_pass wsX13_pass) := goodIn_app (k_gc wd_1051 (k_gc wd_1052 (k_gc wd_1053 (k_gc wd_122 k_gn)))) (gp_wsX13_pass)
theorem gL_law_X11_valley : GoodIn lw_tbl (wsV RL 149 RX11 yX11_valley wsX11_valley) := goodIn_app (k_gc wd_1056 (k_gc wd_1057 (k_gc wd_1058 (k_gc wd_115 k_gn)))) (gp_wsX11_valley)
theorem gL_law_X13_valley : GoodIn lw_tbl (wsV RL 152 RX13 yX13_valley wsX13_valley) := goodIn_app (k_gc wd_1060 (k_gc wd_1061 (k_gc wd_1062 (k_gc wd_122 k_gn)))) (gp_wsX13_valley)
theorem gL_law_X11_faultEnergy : GoodIn lw_tbl (wsV RL 153 RX11 yX11_faultEnergy wsX11_faultEnergy) := goodIn_app (k_gc wd_1067 (k_gc wd_1068 (k_gc wd_1069 (k_gc wd_115 k_gn)))) (gp_wsX11_faultEnergy)
theorem gL_law_X13_faultEnergy : GoodIn lw_tbl (wsV RL 156 RX13 yX13_faultEnergy wsX13_faultEnergy) := goodIn_app (k_gc wd_1074 (k_gc wd_1075 (k_gc wd_1076 (k_gc wd_122 k_gn)))) (gp_wsX13_faultEnergy)
theorem gL_law_X11_bestFault : GoodIn lw_tbl (wsV RL 157 RX11 yX11_bestFault wsX11_bestFault) := goodIn_app (k_gc wd_1078 (k_gc wd_1079 (k_gc wd_1080 (k_gc wd_115 k_gn)))) (gp_wsX11_bestFault)
theorem gL_law_X13_bestFault : GoodIn lw_tbl (wsV RL 160 RX13 yX13_bestFault wsX13_bestFault) := goodIn_app (k_gc wd_1082 (k_gc wd_1083 (k_gc wd_1084 (k_gc wd_122 k_gn)))) (gp_wsX13_bestFault)
theorem gL_law_X11_differs : GoodIn lw_tbl (wsV RL 161 RX11 yX11_differs wsX11_differs) := goodIn_app (k_gc wd_1086 (k_gc wd_1087 (k_gc wd_1088 (k_gc wd_115 k_gn)))) (gp_wsX11_differs)
theorem gL_law_X13_differs : GoodIn lw_tbl (wsV RL 164 RX13 yX13_differs wsX13_differs) := goodIn_app (k_gc wd_1090 (k_gc wd_1091 (k_gc wd_1092 (k_gc wd_122 k_gn)))) (gp_wsX13_differs)
theorem gL_law_X11_fits : GoodIn lw_tbl (wsV RL 165 RX11 yX11_fits wsX11_fits) := goodIn_app (k_gc wd_1115 (k_gc wd_1116 (k_gc wd_1117 (k_gc wd_115 k_gn)))) (gp_wsX11_fits)
theorem gL_law_X13_fits : GoodIn lw_tbl (wsV RL 168 RX13 yX13_fits wsX13_fits) := goodIn_app (k_gc wd_1137 (k_gc wd_1138 (k_gc wd_1139 (k_gc wd_122 k_gn)))) (gp_wsX13_fits)
theorem gL_law_X11_fitAt : GoodIn lw_tbl (wsV RL 169 RX11 yX11_fitAt wsX11_fitAt) := goodIn_app (k_gc wd_1144 (k_gc wd_1145 (k_gc wd_1146 (k_gc wd_115 k_gn)))) (gp_wsX11_fitAt)
theorem gL_law_X13_fitAt : GoodIn lw_tbl (wsV RL 172 RX13 yX13_fitAt wsX13_fitAt) := goodIn_app (k_gc wd_1148 (k_gc wd_1149 (k_gc wd_1150 (k_gc wd_122 k_gn)))) (gp_wsX13_fitAt)
theorem gL_law_X11_could : GoodIn lw_tbl (wsV RL 173 RX11 yX11_could wsX11_could) := goodIn_app (k_gc wd_1155 (k_gc wd_1156 (k_gc wd_1157 (k_gc wd_115 k_gn)))) (gp_wsX11_could)
theorem gL_law_X13_could : GoodIn lw_tbl (wsV RL 176 RX13 yX13_could wsX13_could) := goodIn_app (k_gc wd_1159 (k_gc wd_1160 (k_gc wd_1161 (k_gc wd_122 k_gn)))) (gp_wsX13_could)
theorem gL_law_X11_surely : GoodIn lw_tbl (wsV RL 177 RX11 yX11_surely wsX11_surely) := goodIn_app (k_gc wd_1166 (k_gc wd_1167 (k_gc wd_1168 (k_gc wd_115 k_gn)))) (gp_wsX11_surely)
theorem gL_law_X13_surely : GoodIn lw_tbl (wsV RL 180 RX13 yX13_surely wsX13_surely) := goodIn_app (k_gc wd_1170 (k_gc wd_1171 (k_gc wd_1172 (k_gc wd_122 k_gn)))) (gp_wsX13_surely)
theorem gL_law_X11_ask : GoodIn lw_tbl (wsV RL 181 RX11 yX11_ask wsX11_ask) := goodIn_app (k_gc wd_1182 (k_gc wd_1183 (k_gc wd_1184 (k_gc wd_115 k_gn)))) (gp_wsX11_ask)
theorem gL_law_X13_ask : GoodIn lw_tbl (wsV RL 184 RX13 yX13_ask wsX13_ask) := goodIn_app (k_gc wd_1191 (k_gc wd_1192 (k_gc wd_1193 (k_gc wd_122 k_gn)))) (gp_wsX13_ask)
theorem gL_law_X11_askLeaves : GoodIn lw_tbl (wsV RL 185 RX11 yX11_askLeaves wsX11_askLeaves) := goodIn_app (k_gc wd_1196 (k_gc wd_1197 (k_gc wd_1198 (k_gc wd_115 k_gn)))) (gp_wsX11_askLeaves)
theorem gL_law_X13_askLeaves : GoodIn lw_tbl (wsV RL 188 RX13 yX13_askLeaves wsX13_askLeaves) := goodIn_app (k_gc wd_1200 (k_gc wd_1201 (k_gc wd_1202 (k_gc wd_122 k_gn)))) (gp_wsX13_askLeaves)
theorem gL_law_X11_judge : GoodIn lw_tbl (wsV RL 189 RX11 yX11_judge wsX11_judge) := goodIn_app (k_gc wd_1205 (k_gc wd_1206 (k_gc wd_1207 (k_gc wd_115 k_gn)))) (gp_wsX11_judge)
theorem gL_law_X13_judge : GoodIn lw_tbl (wsV RL 192 RX13 yX13_judge wsX13_judge) := goodIn_app (k_gc wd_1209 (k_gc wd_1210 (k_gc wd_1211 (k_gc wd_122 k_gn)))) (gp_wsX13_judge)
theorem gL_law_X11_odds : GoodIn lw_tbl (wsV RL 193 RX11 yX11_odds wsX11_odds) := goodIn_app (k_gc wd_1225 (k_gc wd_1226 (k_gc wd_1227 (k_gc wd_115 k_gn)))) (gp_wsX11_odds)
theorem gL_law_X13_odds : GoodIn lw_tbl (wsV RL 197 RX13 yX13_odds wsX13_odds) := goodIn_app (k_gc wd_1237 (k_gc wd_1238 (k_gc wd_1239 (k_gc wd_122 k_gn)))) (gp_wsX13_odds)
theorem gL_law_X11_rowOdds : GoodIn lw_tbl (wsV RL 198 RX11 yX11_rowOdds wsX11_rowOdds) := goodIn_app (k_gc wd_1245 (k_gc wd_1246 (k_gc wd_1247 (k_gc wd_115 k_gn)))) (gp_wsX11_rowOdds)
theorem gL_law_X13_rowOdds : GoodIn lw_tbl (wsV RL 201 RX13 yX13_rowOdds wsX13_rowOdds) := goodIn_app (k_gc wd_1249 (k_gc wd_1250 (k_gc wd_1251 (k_gc wd_122 k_gn)))) (gp_wsX13_rowOdds)
theorem gL_law_X11_meanSum : GoodIn lw_tbl (wsV RL 202 RX11 yX11_meanSum wsX11_meanSum) := goodIn_app (k_gc wd_1257 (k_gc wd_1258 (k_gc wd_1259 (k_gc wd_115 k_gn)))) (gp_wsX11_meanSum)
theorem gL_law_X13_meanSum : GoodIn lw_tbl (wsV RL 205 RX13 yX13_meanSum wsX13_meanSum) := goodIn_app (k_gc wd_1261 (k_gc wd_1262 (k_gc wd_1263 (k_gc wd_122 k_gn)))) (gp_wsX13_meanSum)
theorem gL_law_X11_grown : GoodIn lw_tbl (wsV RL 206 RX11 yX11_grown wsX11_grown) := goodIn_app (k_gc wd_1276 (k_gc wd_1277 (k_gc wd_1278 (k_gc wd_115 k_gn)))) (gp_wsX11_grown)
theorem gL_law_X13_grown : GoodIn lw_tbl (wsV RL 209 RX13 yX13_grown wsX13_grown) := goodIn_app (k_gc wd_1289 (k_gc wd_1290 (k_gc wd_1291 (k_gc wd_122 k_gn)))) (gp_wsX13_grown)
theorem gL_law_X11_longestRun : GoodIn lw_tbl (wsV RL 210 RX11 yX11_longestRun wsX11_longestRun) := goodIn_app (k_gc wd_1297 (k_gc wd_1298 (k_gc wd_1299 (k_gc wd_115 k_gn)))) (gp_wsX11_longestRun)
theorem gL_law_X13_longestRun : GoodIn lw_tbl (wsV RL 213 RX13 yX13_longestRun wsX13_longestRun) := goodIn_app (k_gc wd_1301 (k_gc wd_1302 (k_gc wd_1303 (k_gc wd_122 k_gn)))) (gp_wsX13_longestRun)
theorem gL_law_X11_slip : GoodIn lw_tbl (wsV RL 214 RX11 yX11_slip wsX11_slip) := goodIn_app (k_gc wd_1319 (k_gc wd_1320 (k_gc wd_1321 (k_gc wd_115 k_gn)))) (gp_wsX11_slip)
theorem gL_law_X13_slip : GoodIn lw_tbl (wsV RL 217 RX13 yX13_slip wsX13_slip) := goodIn_app (k_gc wd_1331 (k_gc wd_1332 (k_gc wd_1333 (k_gc wd_122 k_gn)))) (gp_wsX13_slip)
theorem gL_law_X11_turn : GoodIn lw_tbl (wsV RL 218 RX11 yX11_turn wsX11_turn) := goodIn_app (k_gc wd_1336 (k_gc wd_1337 (k_gc wd_1338 (k_gc wd_115 k_gn)))) (gp_wsX11_turn)
theorem gL_law_X13_turn : GoodIn lw_tbl (wsV RL 221 RX13 yX13_turn wsX13_turn) := goodIn_app (k_gc wd_1340 (k_gc wd_1341 (k_gc wd_1342 (k_gc wd_122 k_gn)))) (gp_wsX13_turn)
theorem gL_law_X11_twin : GoodIn lw_tbl (wsV RL 222 RX11 yX11_twin wsX11_twin) := goodIn_app (k_gc wd_1345 (k_gc wd_1346 (k_gc wd_1347 (k_gc wd_115 k_gn)))) (gp_wsX11_twin)
theorem gL_law_X13_twin : GoodIn lw_tbl (wsV RL 225 RX13 yX13_twin wsX13_twin) := goodIn_app (k_gc wd_1349 (k_gc wd_1350 (k_gc wd_1351 (k_gc wd_122 k_gn)))) (gp_wsX13_twin)
theorem gL_law_X11_grow : GoodIn lw_tbl (wsV RL 226 RX11 yX11_grow wsX11_grow) := goodIn_app (k_gc wd_1353 (k_gc wd_1354 (k_gc wd_1355 (k_gc wd_115 k_gn)))) (gp_wsX11_grow)
theorem gL_law_X13_grow : GoodIn lw_tbl (wsV RL 230 RX13 yX13_grow wsX13_grow) := goodIn_app (k_gc wd_1357 (k_gc wd_1358 (k_gc wd_1359 (k_gc wd_122 k_gn)))) (gp_wsX13_grow)
theorem gL_law_X11_cut : GoodIn lw_tbl (wsV RL 231 RX11 yX11_cut wsX11_cut) := goodIn_app (k_gc wd_1361 (k_gc wd_1362 (k_gc wd_1363 (k_gc wd_115 k_gn)))) (gp_wsX11_cut)
theorem gL_law_X13_cut : GoodIn lw_tbl (wsV RL 234 RX13 yX13_cut wsX13_cut) := goodIn_app (k_gc wd_1365 (k_gc wd_1366 (k_gc wd_1367 (k_gc wd_122 k_gn)))) (gp_wsX13_cut)
theorem gL_law_X11_undo : GoodIn lw_tbl (wsV RL 235 RX11 yX11_undo wsX11_undo) := goodIn_app (k_gc wd_1374 (k_gc wd_1375 (k_gc wd_1376 (k_gc wd_115 k_gn)))) (gp_wsX11_undo)
theorem gL_law_X13_undo : GoodIn lw_tbl (wsV RL 239 RX13 yX13_undo wsX13_undo) := goodIn_app (k_gc wd_1386 (k_gc wd_1387 (k_gc wd_1388 (k_gc wd_122 k_gn)))) (gp_wsX13_undo)
theorem gL_law_X11_image : GoodIn lw_tbl (wsV RL 240 RX11 yX11_image wsX11_image) := goodIn_app (k_gc wd_1397 (k_gc wd_1398 (k_gc wd_1399 (k_gc wd_115 k_gn)))) (gp_wsX11_image)
theorem gL_law_X13_image : GoodIn lw_tbl (wsV RL 243 RX13 yX13_image wsX13_image) := goodIn_app (k_gc wd_1401 (k_gc wd_1402 (k_gc wd_1403 (k_gc wd_122 k_gn)))) (gp_wsX13_image)
theorem gL_law_X11_back : GoodIn lw_tbl (wsV RL 244 RX11 yX11_back wsX11_back) := goodIn_app (k_gc wd_1410 (k_gc wd_1411 (k_gc wd_1412 (k_gc wd_115 k_gn)))) (gp_wsX11_back)
theorem gL_law_X13_back : GoodIn lw_tbl (wsV RL 248 RX13 yX13_back wsX13_back) := goodIn_app (k_gc wd_1414 (k_gc wd_1415 (k_gc wd_1416 (k_gc wd_122 k_gn)))) (gp_wsX13_back)
theorem gL_law_L_led : GoodIn lw_tbl (va_wsS RL 249 yL_led wsL_led) := goodIn_app (k_gc wd_1425 (k_gc wd_1426 (k_gc wd_1427 k_gn))) (gp_wsL_led)
theorem gL_law_X13_led : GoodIn lw_tbl (wsV RL 254 RX13 yX13_led wsX13_led) := goodIn_app (k_gc wd_1429 (k_gc wd_1430 (k_gc wd_1431 (k_gc wd_122 k_gn)))) (gp_wsX13_led)
theorem gL_law_X13_thrown : GoodIn lw_tbl (wsV RL 255 RX13 yX13_thrown wsX13_thrown) := goodIn_app (k_gc wd_1433 (k_gc wd_1434 (k_gc wd_1435 (k_gc wd_122 k_gn)))) (gp_wsX13_thrown)
theorem gL_law_X11_size : GoodIn lw_tbl (wsV RL 258 RX11 yX11_size wsX11_size) := goodIn_app (k_gc wd_1437 (k_gc wd_1438 (k_gc wd_1439 (k_gc wd_115 k_gn)))) (gp_wsX11_size)
theorem gL_law_X13_size : GoodIn lw_tbl (wsV RL 261 RX13 yX13_size wsX13_size) := goodIn_app (k_gc wd_1441 (k_gc wd_1442 (k_gc wd_1443 (k_gc wd_122 k_gn)))) (gp_wsX13_size)
theorem gL_law_X11_trouble : GoodIn lw_tbl (wsV RL 262 RX11 yX11_trouble wsX11_trouble) := goodIn_app (k_gc wd_1445 (k_gc wd_1446 (k_gc wd_1447 (k_gc wd_115 k_gn)))) (gp_wsX11_trouble)
theorem gL_law_X13_trouble : GoodIn lw_tbl (wsV RL 265 RX13 yX13_trouble wsX13_trouble) := goodIn_app (k_gc wd_1449 (k_gc wd_1450 (k_gc wd_1451 (k_gc wd_122 k_gn)))) (gp_wsX13_trouble)
set_option maxRecDepth 20000 in
theorem ggL_led_X11_led : GoodIn wsL_led wsX11_ledX := goodIn_ca (goodIn_r _ [6, 7, 8, 9, 10, 11, 12, 13, 14, 15, 16, 5, 17, 18, 19, 20, 21, 22, 23, 24, 25, 26, 27, 28, 29, 30, 31, 32, 33, 34, 35, 36, 37, 38, 39, 40, 41, 42, 43, 44, 45, 46, 47, 48, 49, 50, 51] (by decide +kernel) (by decide +kernel)) (goodIn_sub (fun _ h => List.mem_cons_of_mem _ (List.mem_append_right _ h)) (by decide +kernel))
set_option maxRecDepth 20000 in
theorem gL_led_X11_led : GoodIn wsL_led (wsV RL 7 RX11 yX11_led wsX11_ledX) := goodIn_app (goodIn_of _ (by decide +kernel)) ggL_led_X11_led
