/-! THE LAW'S WORDS, the second half -/
theorem wd_521 : kG (Cond.methodLink RX11 147 yX8_letterAt) := ⟨tk_2 _ (List.mem_of_getElem? (i := 124) (by decide +kernel)), Or.inl rfl⟩
theorem wd_522 : kG (Cond.static yX8_letterAt) := ⟨tk_2 _ (List.mem_of_getElem? (i := 125) (by decide +kernel)), Or.inl rfl⟩
theorem wd_523 : kG (Cond.code yX8_letterAt cX8_letterAt 6 (some .int)) := ⟨tk_2 _ (List.mem_of_getElem? (i := 126) (by decide +kernel)), Or.inl rfl⟩
theorem wd_524 : kG (Cond.methodLink RX8 48 yX8_letterBehind) := ⟨tk_2 _ (List.mem_of_getElem? (i := 130) (by decide +kernel)), Or.inl rfl⟩
theorem wd_525 : kG (Cond.static yX8_letterBehind) := ⟨tk_2 _ (List.mem_of_getElem? (i := 131) (by decide +kernel)), Or.inl rfl⟩
theorem wd_526 : kG (Cond.code yX8_letterBehind cX8_letterBehind 2 (some .int)) := ⟨tk_2 _ (List.mem_of_getElem? (i := 132) (by decide +kernel)), Or.inl rfl⟩
theorem gp_wsX11_layer_r2 : GoodIn lw_tbl wsX11_layer_r2 := k_gc wd_521 (k_gc wd_522 (k_gc wd_388 (k_gc wd_523 (k_gc wd_511 (k_gc wd_512 (k_gc wd_513 (k_gc wd_524 (k_gc wd_525 (k_gc wd_526 (k_gc wd_465 (k_gc wd_387 (k_gc wd_389 (k_gc wd_347 (k_gc wd_348 (k_gc wd_349 (k_gc wd_350 k_gn))))))))))))))))
theorem gp_wsX11_layer : GoodIn lw_tbl wsX11_layer := k_gc wd_520 (goodIn_app (goodIn_app (goodIn_app (gp_wsX11_layer_r1) (gp_wsX11_layer_r2)) (k_G_wsX110)) (k_G_wsX90))
theorem wd_527 : kG (Cond.methodLink RL 147 yX11_layer) := ⟨tk_2 _ (List.mem_of_getElem? (i := 120) (by decide +kernel)), Or.inl rfl⟩
theorem wd_528 : kG (Cond.instanceMethod yX11_layer) := ⟨tk_2 _ (List.mem_of_getElem? (i := 121) (by decide +kernel)), Or.inl rfl⟩
theorem wd_529 : kG (Cond.selects RX11 yX11_layer yX11_layer) := ⟨tk_2 _ (List.mem_of_getElem? (i := 122) (by decide +kernel)), Or.inl rfl⟩
theorem wd_530 : kG (Cond.code yX11_hex cX11_hex 5 (some .int)) := ⟨tk_2 _ (List.mem_of_getElem? (i := 136) (by decide +kernel)), Or.inl rfl⟩
theorem gp_wsX11_hex_r1 : GoodIn lw_tbl wsX11_hex_r1 := k_gc wd_15 (k_gc wd_474 (k_gc wd_475 (k_gc wd_476 (k_gc wd_112 (k_gc wd_477 (k_gc wd_144 (k_gc wd_145 (k_gc wd_146 (k_gc wd_147 (k_gc wd_148 (k_gc wd_479 (k_gc wd_317 (k_gc wd_318 (k_gc wd_14 (k_gc wd_319 (k_gc wd_52 (k_gc wd_314 (k_gc wd_315 (k_gc wd_478 (k_gc wd_342 (k_gc wd_343 (k_gc wd_344 (k_gc wd_51 k_gn)))))))))))))))))))))))
theorem wd_531 : kG (Cond.methodLink RX11 151 yX8_turnedBy) := ⟨tk_2 _ (List.mem_of_getElem? (i := 137) (by decide +kernel)), Or.inl rfl⟩
theorem wd_532 : kG (Cond.static yX8_turnedBy) := ⟨tk_2 _ (List.mem_of_getElem? (i := 138) (by decide +kernel)), Or.inl rfl⟩
theorem wd_533 : kG (Cond.code yX8_turnedBy cX8_turnedBy 5 (some .int)) := ⟨tk_2 _ (List.mem_of_getElem? (i := 139) (by decide +kernel)), Or.inl rfl⟩
theorem wd_534 : kG (Cond.methodLink RX11 154 yX8_beginsRun) := ⟨tk_2 _ (List.mem_of_getElem? (i := 140) (by decide +kernel)), Or.inl rfl⟩
theorem gp_wsX11_hex_r2 : GoodIn lw_tbl wsX11_hex_r2 := k_gc wd_531 (k_gc wd_532 (k_gc wd_388 (k_gc wd_533 (k_gc wd_465 (k_gc wd_387 (k_gc wd_389 (k_gc wd_534 (k_gc wd_509 (k_gc wd_510 (k_gc wd_511 (k_gc wd_512 (k_gc wd_513 (k_gc wd_347 (k_gc wd_348 (k_gc wd_349 (k_gc wd_350 k_gn))))))))))))))))
theorem gp_wsX11_hex : GoodIn lw_tbl wsX11_hex := k_gc wd_530 (goodIn_app (goodIn_app (goodIn_app (gp_wsX11_hex_r1) (gp_wsX11_hex_r2)) (k_G_wsX110)) (k_G_wsX90))
theorem wd_535 : kG (Cond.methodLink RL 150 yX11_hex) := ⟨tk_2 _ (List.mem_of_getElem? (i := 133) (by decide +kernel)), Or.inl rfl⟩
theorem wd_536 : kG (Cond.instanceMethod yX11_hex) := ⟨tk_2 _ (List.mem_of_getElem? (i := 134) (by decide +kernel)), Or.inl rfl⟩
theorem wd_537 : kG (Cond.selects RX11 yX11_hex yX11_hex) := ⟨tk_2 _ (List.mem_of_getElem? (i := 135) (by decide +kernel)), Or.inl rfl⟩
theorem wd_538 : kG (Cond.code yX11_agree cX11_agree 3 (some .int)) := ⟨tk_2 _ (List.mem_of_getElem? (i := 157) (by decide +kernel)), Or.inl rfl⟩
theorem gp_wsX11_agree_r1 : GoodIn lw_tbl wsX11_agree_r1 := k_gc wd_15 (k_gc wd_474 (k_gc wd_475 (k_gc wd_476 (k_gc wd_112 (k_gc wd_477 (k_gc wd_144 (k_gc wd_145 (k_gc wd_146 (k_gc wd_147 (k_gc wd_148 (k_gc wd_478 (k_gc wd_342 (k_gc wd_343 (k_gc wd_14 (k_gc wd_344 (k_gc wd_51 (k_gc wd_314 (k_gc wd_315 (k_gc wd_479 (k_gc wd_317 (k_gc wd_318 (k_gc wd_319 (k_gc wd_52 k_gn)))))))))))))))))))))))
theorem wd_539 : kG (Cond.methodLink RX11 161 yX8_layersAlike) := ⟨tk_2 _ (List.mem_of_getElem? (i := 158) (by decide +kernel)), Or.inl rfl⟩
theorem wd_540 : kG (Cond.static yX8_layersAlike) := ⟨tk_2 _ (List.mem_of_getElem? (i := 159) (by decide +kernel)), Or.inl rfl⟩
theorem wd_541 : kG (Cond.code yX8_layersAlike cX8_layersAlike 9 (some .int)) := ⟨tk_2 _ (List.mem_of_getElem? (i := 160) (by decide +kernel)), Or.inl rfl⟩
theorem wd_542 : kG (Cond.methodLink RX8 52 yX8_letterAt) := ⟨tk_2 _ (List.mem_of_getElem? (i := 161) (by decide +kernel)), Or.inl rfl⟩
theorem wd_543 : kG (Cond.methodLink RX8 56 yX8_turnedBy) := ⟨tk_2 _ (List.mem_of_getElem? (i := 162) (by decide +kernel)), Or.inl rfl⟩
theorem wd_544 : kG (Cond.methodLink RX8 59 yX8_repeatsAfter) := ⟨tk_2 _ (List.mem_of_getElem? (i := 163) (by decide +kernel)), Or.inl rfl⟩
theorem gp_wsX11_agree_r2 : GoodIn lw_tbl wsX11_agree_r2 := k_gc wd_539 (k_gc wd_540 (k_gc wd_388 (k_gc wd_541 (k_gc wd_542 (k_gc wd_522 (k_gc wd_523 (k_gc wd_511 (k_gc wd_512 (k_gc wd_513 (k_gc wd_524 (k_gc wd_525 (k_gc wd_526 (k_gc wd_465 (k_gc wd_387 (k_gc wd_389 (k_gc wd_543 (k_gc wd_532 (k_gc wd_533 (k_gc wd_544 (k_gc wd_481 (k_gc wd_482 (k_gc wd_445 (k_gc wd_446 k_gn)))))))))))))))))))))))
theorem gp_wsX11_agree_r3 : GoodIn lw_tbl wsX11_agree_r3 := k_gc wd_447 (k_gc wd_448 (k_gc wd_394 (k_gc wd_395 (k_gc wd_396 (k_gc wd_397 (k_gc wd_398 (k_gc wd_399 (k_gc wd_347 (k_gc wd_348 (k_gc wd_349 (k_gc wd_350 k_gn)))))))))))
theorem gp_wsX11_agree : GoodIn lw_tbl wsX11_agree := k_gc wd_538 (goodIn_app (goodIn_app (goodIn_app (gp_wsX11_agree_r1) (goodIn_app (gp_wsX11_agree_r2) (gp_wsX11_agree_r3))) (k_G_wsX110)) (k_G_wsX90))
theorem wd_545 : kG (Cond.methodLink RL 153 yX11_agree) := ⟨tk_2 _ (List.mem_of_getElem? (i := 154) (by decide +kernel)), Or.inl rfl⟩
theorem wd_546 : kG (Cond.instanceMethod yX11_agree) := ⟨tk_2 _ (List.mem_of_getElem? (i := 155) (by decide +kernel)), Or.inl rfl⟩
theorem wd_547 : kG (Cond.selects RX11 yX11_agree yX11_agree) := ⟨tk_2 _ (List.mem_of_getElem? (i := 156) (by decide +kernel)), Or.inl rfl⟩
theorem wd_548 : kG (Cond.code yX11_energy cX11_energy 2 (some .int)) := ⟨tk_2 _ (List.mem_of_getElem? (i := 167) (by decide +kernel)), Or.inl rfl⟩
theorem gp_wsX11_energy_r1 : GoodIn lw_tbl wsX11_energy_r1 := k_gc wd_430 (k_gc wd_35 (k_gc wd_15 (k_gc wd_474 (k_gc wd_475 (k_gc wd_476 (k_gc wd_112 (k_gc wd_477 (k_gc wd_144 (k_gc wd_145 (k_gc wd_146 (k_gc wd_147 (k_gc wd_148 (k_gc wd_478 (k_gc wd_342 (k_gc wd_343 (k_gc wd_14 (k_gc wd_344 (k_gc wd_51 (k_gc wd_314 (k_gc wd_315 (k_gc wd_479 (k_gc wd_317 (k_gc wd_318 k_gn)))))))))))))))))))))))
theorem wd_549 : kG (Cond.methodLink RX11 169 yX4_energyOf) := ⟨tk_2 _ (List.mem_of_getElem? (i := 169) (by decide +kernel)), Or.inl rfl⟩
theorem gp_wsX11_energy_r2 : GoodIn lw_tbl wsX11_energy_r2 := k_gc wd_319 (k_gc wd_52 (k_gc wd_549 (k_gc wd_380 (k_gc wd_381 (k_gc wd_34 (k_gc wd_382 (k_gc wd_383 (k_gc wd_384 (k_gc wd_385 (k_gc wd_386 (k_gc wd_387 (k_gc wd_388 (k_gc wd_389 (k_gc wd_390 (k_gc wd_391 (k_gc wd_392 (k_gc wd_393 (k_gc wd_394 (k_gc wd_395 (k_gc wd_396 (k_gc wd_397 (k_gc wd_398 (k_gc wd_399 k_gn)))))))))))))))))))))))
theorem gp_wsX11_energy_r3 : GoodIn lw_tbl wsX11_energy_r3 := k_gc wd_347 (k_gc wd_348 (k_gc wd_349 (k_gc wd_350 k_gn)))
theorem gp_wsX11_energy : GoodIn lw_tbl wsX11_energy := k_gc wd_548 (goodIn_app (goodIn_app (goodIn_app (goodIn_app (gp_wsX11_energy_r1) (goodIn_app (gp_wsX11_energy_r2) (gp_wsX11_energy_r3))) (k_G_wsX110)) (k_G_wsX90)) (k_G_wsX40))
theorem wd_550 : kG (Cond.methodLink RL 156 yX11_energy) := ⟨tk_2 _ (List.mem_of_getElem? (i := 164) (by decide +kernel)), Or.inl rfl⟩
theorem wd_551 : kG (Cond.instanceMethod yX11_energy) := ⟨tk_2 _ (List.mem_of_getElem? (i := 165) (by decide +kernel)), Or.inl rfl⟩
theorem wd_552 : kG (Cond.selects RX11 yX11_energy yX11_energy) := ⟨tk_2 _ (List.mem_of_getElem? (i := 166) (by decide +kernel)), Or.inl rfl⟩
theorem wd_553 : kG (Cond.code yX11_calmest cX11_calmest 5 (some .int)) := ⟨tk_2 _ (List.mem_of_getElem? (i := 181) (by decide +kernel)), Or.inl rfl⟩
theorem gp_wsX11_calmest_r1 : GoodIn lw_tbl wsX11_calmest_r1 := k_gc wd_35 (k_gc wd_15 (k_gc wd_144 (k_gc wd_145 (k_gc wd_146 (k_gc wd_112 (k_gc wd_147 (k_gc wd_148 (k_gc wd_478 (k_gc wd_342 (k_gc wd_343 (k_gc wd_14 (k_gc wd_344 (k_gc wd_51 (k_gc wd_314 (k_gc wd_315 (k_gc wd_479 (k_gc wd_317 (k_gc wd_318 (k_gc wd_319 (k_gc wd_52 (k_gc wd_549 (k_gc wd_380 (k_gc wd_381 k_gn)))))))))))))))))))))))
theorem gp_wsX11_calmest_r2 : GoodIn lw_tbl wsX11_calmest_r2 := k_gc wd_34 (k_gc wd_382 (k_gc wd_383 (k_gc wd_384 (k_gc wd_385 (k_gc wd_386 (k_gc wd_387 (k_gc wd_388 (k_gc wd_389 (k_gc wd_390 (k_gc wd_391 (k_gc wd_392 (k_gc wd_393 (k_gc wd_394 (k_gc wd_395 (k_gc wd_396 (k_gc wd_397 (k_gc wd_398 (k_gc wd_399 (k_gc wd_347 (k_gc wd_348 (k_gc wd_349 (k_gc wd_350 k_gn))))))))))))))))))))))
theorem gp_wsX11_calmest : GoodIn lw_tbl wsX11_calmest := k_gc wd_553 (goodIn_app (goodIn_app (goodIn_app (goodIn_app (gp_wsX11_calmest_r1) (gp_wsX11_calmest_r2)) (k_G_wsX110)) (k_G_wsX40)) (k_G_wsX90))
theorem wd_554 : kG (Cond.methodLink RL 158 yX11_calmest) := ⟨tk_2 _ (List.mem_of_getElem? (i := 178) (by decide +kernel)), Or.inl rfl⟩
theorem wd_555 : kG (Cond.instanceMethod yX11_calmest) := ⟨tk_2 _ (List.mem_of_getElem? (i := 179) (by decide +kernel)), Or.inl rfl⟩
theorem wd_556 : kG (Cond.selects RX11 yX11_calmest yX11_calmest) := ⟨tk_2 _ (List.mem_of_getElem? (i := 180) (by decide +kernel)), Or.inl rfl⟩
theorem wd_557 : kG (Cond.code yX11_out cX11_out 5 (some .int)) := ⟨tk_2 _ (List.mem_of_getElem? (i := 185) (by decide +kernel)), Or.inl rfl⟩
theorem gp_wsX11_out_r1 : GoodIn lw_tbl wsX11_out_r1 := k_gc wd_15 (k_gc wd_27 (k_gc wd_474 (k_gc wd_475 (k_gc wd_476 (k_gc wd_112 (k_gc wd_477 (k_gc wd_144 (k_gc wd_145 (k_gc wd_146 (k_gc wd_147 (k_gc wd_148 (k_gc wd_478 (k_gc wd_342 (k_gc wd_343 (k_gc wd_14 (k_gc wd_344 (k_gc wd_51 (k_gc wd_314 (k_gc wd_315 (k_gc wd_479 (k_gc wd_317 (k_gc wd_318 (k_gc wd_319 k_gn)))))))))))))))))))))))
theorem wd_558 : kG (Cond.methodLink RX11 176 yX6_goesOut) := ⟨tk_2 _ (List.mem_of_getElem? (i := 186) (by decide +kernel)), Or.inl rfl⟩
theorem wd_559 : kG (Cond.instanceMethod yX6_goesOut) := ⟨tk_2 _ (List.mem_of_getElem? (i := 187) (by decide +kernel)), Or.inl rfl⟩
theorem wd_560 : kG (Cond.selects RX6 yX6_goesOut yX6_goesOut) := ⟨tk_2 _ (List.mem_of_getElem? (i := 188) (by decide +kernel)), Or.inl rfl⟩
theorem wd_561 : kG (Cond.code yX6_goesOut cX6_goesOut 8 (some .boolean)) := ⟨tk_2 _ (List.mem_of_getElem? (i := 189) (by decide +kernel)), Or.inl rfl⟩
theorem wd_562 : kG (Cond.fieldLink RX6 28 "ClosePacking$Lines" "PRIMES" "[I") := ⟨tk_2 _ (List.mem_of_getElem? (i := 202) (by decide +kernel)), Or.inl rfl⟩
theorem wd_563 : kG (Cond.methodLink RX6 18 yX8_repeatsAfter) := ⟨tk_2 _ (List.mem_of_getElem? (i := 190) (by decide +kernel)), Or.inl rfl⟩
theorem wd_564 : kG (Cond.methodLink RX6 24 yX6_countPoints) := ⟨tk_2 _ (List.mem_of_getElem? (i := 191) (by decide +kernel)), Or.inl rfl⟩
theorem wd_565 : kG (Cond.instanceMethod yX6_countPoints) := ⟨tk_2 _ (List.mem_of_getElem? (i := 193) (by decide +kernel)), Or.inl rfl⟩
theorem gp_wsX11_out_r2 : GoodIn lw_tbl wsX11_out_r2 := k_gc wd_52 (k_gc wd_480 (k_gc wd_481 (k_gc wd_388 (k_gc wd_482 (k_gc wd_445 (k_gc wd_446 (k_gc wd_447 (k_gc wd_448 (k_gc wd_394 (k_gc wd_395 (k_gc wd_396 (k_gc wd_397 (k_gc wd_398 (k_gc wd_399 (k_gc wd_558 (k_gc wd_559 (k_gc wd_560 (k_gc wd_26 (k_gc wd_561 (k_gc wd_562 (k_gc wd_563 (k_gc wd_564 (k_gc wd_565 k_gn)))))))))))))))))))))))
theorem wd_566 : kG (Cond.selects RX6 yX6_countPoints yX6_countPoints) := ⟨List.mem_of_getElem? (i := 3) (by decide +kernel), Or.inl rfl⟩
theorem wd_567 : kG (Cond.code yX6_countPoints cX6_countPoints 10 none) := ⟨tk_2 _ (List.mem_of_getElem? (i := 194) (by decide +kernel)), Or.inl rfl⟩
theorem wd_568 : kG (Cond.methodLink RX6 47 yX8_startsUp) := ⟨tk_2 _ (List.mem_of_getElem? (i := 199) (by decide +kernel)), Or.inl rfl⟩
theorem wd_569 : kG (Cond.methodLink RX6 51 yX8_letterBehind) := ⟨tk_2 _ (List.mem_of_getElem? (i := 200) (by decide +kernel)), Or.inl rfl⟩
theorem wd_570 : kG (Cond.methodLink RX6 55 yX8_turned) := ⟨tk_2 _ (List.mem_of_getElem? (i := 201) (by decide +kernel)), Or.inl rfl⟩
theorem wd_571 : kG (Cond.methodLink RX6 31 yX6_subtractTurned) := ⟨tk_2 _ (List.mem_of_getElem? (i := 204) (by decide +kernel)), Or.inl rfl⟩
theorem wd_572 : kG (Cond.instanceMethod yX6_subtractTurned) := ⟨tk_2 _ (List.mem_of_getElem? (i := 206) (by decide +kernel)), Or.inl rfl⟩
theorem wd_573 : kG (Cond.selects RX6 yX6_subtractTurned yX6_subtractTurned) := ⟨List.mem_of_getElem? (i := 4) (by decide +kernel), Or.inl rfl⟩
theorem wd_574 : kG (Cond.code yX6_subtractTurned cX6_subtractTurned 5 none) := ⟨tk_2 _ (List.mem_of_getElem? (i := 207) (by decide +kernel)), Or.inl rfl⟩
theorem wd_575 : kG (Cond.methodLink RX6 35 yX6_isZero) := ⟨tk_2 _ (List.mem_of_getElem? (i := 208) (by decide +kernel)), Or.inl rfl⟩
theorem wd_576 : kG (Cond.instanceMethod yX6_isZero) := ⟨tk_2 _ (List.mem_of_getElem? (i := 210) (by decide +kernel)), Or.inl rfl⟩
theorem wd_577 : kG (Cond.selects RX6 yX6_isZero yX6_isZero) := ⟨List.mem_of_getElem? (i := 5) (by decide +kernel), Or.inl rfl⟩
theorem wd_578 : kG (Cond.code yX6_isZero cX6_isZero 3 (some .boolean)) := ⟨tk_2 _ (List.mem_of_getElem? (i := 211) (by decide +kernel)), Or.inl rfl⟩
theorem gp_wsX11_out_r3 : GoodIn lw_tbl wsX11_out_r3 := k_gc wd_566 (k_gc wd_567 (k_gc wd_67 (k_gc wd_300 (k_gc wd_301 (k_gc wd_568 (k_gc wd_512 (k_gc wd_513 (k_gc wd_569 (k_gc wd_525 (k_gc wd_526 (k_gc wd_570 (k_gc wd_387 (k_gc wd_389 (k_gc wd_571 (k_gc wd_572 (k_gc wd_573 (k_gc wd_574 (k_gc wd_68 (k_gc wd_575 (k_gc wd_576 (k_gc wd_577 (k_gc wd_578 (k_gc wd_347 k_gn)))))))))))))))))))))))
theorem gp_wsX11_out_r4 : GoodIn lw_tbl wsX11_out_r4 := k_gc wd_348 (k_gc wd_349 (k_gc wd_350 k_gn))
theorem gp_wsX11_out : GoodIn lw_tbl wsX11_out := k_gc wd_557 (goodIn_app (goodIn_app (goodIn_app (goodIn_app (gp_wsX11_out_r1) (goodIn_app (gp_wsX11_out_r2) (goodIn_app (gp_wsX11_out_r3) (gp_wsX11_out_r4)))) (k_G_wsX110)) (k_G_wsX90)) (k_G_wsX60))
theorem wd_579 : kG (Cond.methodLink RL 161 yX11_out) := ⟨tk_2 _ (List.mem_of_getElem? (i := 182) (by decide +kernel)), Or.inl rfl⟩
theorem wd_580 : kG (Cond.instanceMethod yX11_out) := ⟨tk_2 _ (List.mem_of_getElem? (i := 183) (by decide +kernel)), Or.inl rfl⟩
theorem wd_581 : kG (Cond.selects RX11 yX11_out yX11_out) := ⟨tk_2 _ (List.mem_of_getElem? (i := 184) (by decide +kernel)), Or.inl rfl⟩
theorem wd_582 : kG (Cond.code yX11_firstLine cX11_firstLine 5 (some .int)) := ⟨tk_2 _ (List.mem_of_getElem? (i := 219) (by decide +kernel)), Or.inl rfl⟩
theorem gp_wsX11_firstLine_r1 : GoodIn lw_tbl wsX11_firstLine_r1 := k_gc wd_15 (k_gc wd_27 (k_gc wd_474 (k_gc wd_475 (k_gc wd_476 (k_gc wd_112 (k_gc wd_477 (k_gc wd_144 (k_gc wd_145 (k_gc wd_146 (k_gc wd_147 (k_gc wd_148 (k_gc wd_478 (k_gc wd_342 (k_gc wd_343 (k_gc wd_14 (k_gc wd_344 (k_gc wd_51 (k_gc wd_314 (k_gc wd_315 (k_gc wd_479 (k_gc wd_317 (k_gc wd_318 (k_gc wd_319 k_gn)))))))))))))))))))))))
theorem gp_wsX11_firstLine_r2 : GoodIn lw_tbl wsX11_firstLine_r2 := k_gc wd_52 (k_gc wd_480 (k_gc wd_481 (k_gc wd_388 (k_gc wd_482 (k_gc wd_445 (k_gc wd_446 (k_gc wd_447 (k_gc wd_448 (k_gc wd_394 (k_gc wd_395 (k_gc wd_396 (k_gc wd_397 (k_gc wd_398 (k_gc wd_399 (k_gc wd_558 (k_gc wd_559 (k_gc wd_560 (k_gc wd_26 (k_gc wd_561 (k_gc wd_562 (k_gc wd_563 (k_gc wd_564 (k_gc wd_565 k_gn)))))))))))))))))))))))
theorem gp_wsX11_firstLine_r3 : GoodIn lw_tbl wsX11_firstLine_r3 := k_gc wd_566 (k_gc wd_567 (k_gc wd_67 (k_gc wd_300 (k_gc wd_301 (k_gc wd_568 (k_gc wd_512 (k_gc wd_513 (k_gc wd_569 (k_gc wd_525 (k_gc wd_526 (k_gc wd_570 (k_gc wd_387 (k_gc wd_389 (k_gc wd_571 (k_gc wd_572 (k_gc wd_573 (k_gc wd_574 (k_gc wd_68 (k_gc wd_575 (k_gc wd_576 (k_gc wd_577 (k_gc wd_578 (k_gc wd_347 k_gn)))))))))))))))))))))))
theorem gp_wsX11_firstLine_r4 : GoodIn lw_tbl wsX11_firstLine_r4 := k_gc wd_348 (k_gc wd_349 (k_gc wd_350 k_gn))
theorem gp_wsX11_firstLine : GoodIn lw_tbl wsX11_firstLine := k_gc wd_582 (goodIn_app (goodIn_app (goodIn_app (goodIn_app (gp_wsX11_firstLine_r1) (goodIn_app (gp_wsX11_firstLine_r2) (goodIn_app (gp_wsX11_firstLine_r3) (gp_wsX11_firstLine_r4)))) (k_G_wsX110)) (k_G_wsX90)) (k_G_wsX60))
theorem wd_583 : kG (Cond.methodLink RL 164 yX11_firstLine) := ⟨tk_2 _ (List.mem_of_getElem? (i := 216) (by decide +kernel)), Or.inl rfl⟩
theorem wd_584 : kG (Cond.instanceMethod yX11_firstLine) := ⟨tk_2 _ (List.mem_of_getElem? (i := 217) (by decide +kernel)), Or.inl rfl⟩
theorem wd_585 : kG (Cond.selects RX11 yX11_firstLine yX11_firstLine) := ⟨tk_2 _ (List.mem_of_getElem? (i := 218) (by decide +kernel)), Or.inl rfl⟩
theorem wd_586 : kG (Cond.code yX11_outs cX11_outs 6 (some .int)) := ⟨tk_2 _ (List.mem_of_getElem? (i := 215) (by decide +kernel)), Or.inl rfl⟩
theorem gp_wsX11_outs_r1 : GoodIn lw_tbl wsX11_outs_r1 := k_gc wd_15 (k_gc wd_27 (k_gc wd_474 (k_gc wd_475 (k_gc wd_476 (k_gc wd_112 (k_gc wd_477 (k_gc wd_144 (k_gc wd_145 (k_gc wd_146 (k_gc wd_147 (k_gc wd_148 (k_gc wd_478 (k_gc wd_342 (k_gc wd_343 (k_gc wd_14 (k_gc wd_344 (k_gc wd_51 (k_gc wd_314 (k_gc wd_315 (k_gc wd_479 (k_gc wd_317 (k_gc wd_318 (k_gc wd_319 k_gn)))))))))))))))))))))))
theorem gp_wsX11_outs_r2 : GoodIn lw_tbl wsX11_outs_r2 := k_gc wd_52 (k_gc wd_480 (k_gc wd_481 (k_gc wd_388 (k_gc wd_482 (k_gc wd_445 (k_gc wd_446 (k_gc wd_447 (k_gc wd_448 (k_gc wd_394 (k_gc wd_395 (k_gc wd_396 (k_gc wd_397 (k_gc wd_398 (k_gc wd_399 (k_gc wd_558 (k_gc wd_559 (k_gc wd_560 (k_gc wd_26 (k_gc wd_561 (k_gc wd_562 (k_gc wd_563 (k_gc wd_564 (k_gc wd_565 k_gn)))))))))))))))))))))))
theorem gp_wsX11_outs_r3 : GoodIn lw_tbl wsX11_outs_r3 := k_gc wd_566 (k_gc wd_567 (k_gc wd_67 (k_gc wd_300 (k_gc wd_301 (k_gc wd_568 (k_gc wd_512 (k_gc wd_513 (k_gc wd_569 (k_gc wd_525 (k_gc wd_526 (k_gc wd_570 (k_gc wd_387 (k_gc wd_389 (k_gc wd_571 (k_gc wd_572 (k_gc wd_573 (k_gc wd_574 (k_gc wd_68 (k_gc wd_575 (k_gc wd_576 (k_gc wd_577 (k_gc wd_578 (k_gc wd_347 k_gn)))))))))))))))))))))))
theorem gp_wsX11_outs_r4 : GoodIn lw_tbl wsX11_outs_r4 := k_gc wd_348 (k_gc wd_349 (k_gc wd_350 k_gn))
theorem gp_wsX11_outs : GoodIn lw_tbl wsX11_outs := k_gc wd_586 (goodIn_app (goodIn_app (goodIn_app (goodIn_app (gp_wsX11_outs_r1) (goodIn_app (gp_wsX11_outs_r2) (goodIn_app (gp_wsX11_outs_r3) (gp_wsX11_outs_r4)))) (k_G_wsX110)) (k_G_wsX90)) (k_G_wsX60))
theorem wd_587 : kG (Cond.methodLink RL 167 yX11_outs) := ⟨tk_2 _ (List.mem_of_getElem? (i := 212) (by decide +kernel)), Or.inl rfl⟩
theorem wd_588 : kG (Cond.instanceMethod yX11_outs) := ⟨tk_2 _ (List.mem_of_getElem? (i := 213) (by decide +kernel)), Or.inl rfl⟩
theorem wd_589 : kG (Cond.selects RX11 yX11_outs yX11_outs) := ⟨tk_2 _ (List.mem_of_getElem? (i := 214) (by decide +kernel)), Or.inl rfl⟩
theorem wd_590 : kG (Cond.code yX11_weakest cX11_weakest 2 (some .int)) := ⟨tk_3 _ (List.mem_of_getElem? (i := 100) (by decide +kernel)), Or.inl rfl⟩
theorem gp_wsX11_weakest_r1 : GoodIn lw_tbl wsX11_weakest_r1 := k_gc wd_35 (k_gc wd_15 (k_gc wd_474 (k_gc wd_475 (k_gc wd_476 (k_gc wd_112 (k_gc wd_477 (k_gc wd_144 (k_gc wd_145 (k_gc wd_146 (k_gc wd_147 (k_gc wd_148 (k_gc wd_478 (k_gc wd_342 (k_gc wd_343 (k_gc wd_14 (k_gc wd_344 (k_gc wd_51 (k_gc wd_314 (k_gc wd_315 (k_gc wd_479 (k_gc wd_317 (k_gc wd_318 (k_gc wd_319 k_gn)))))))))))))))))))))))
theorem wd_591 : kG (Cond.methodLink RX11 225 yX4_weakestStep) := ⟨tk_3 _ (List.mem_of_getElem? (i := 101) (by decide +kernel)), Or.inl rfl⟩
theorem wd_592 : kG (Cond.instanceMethod yX4_weakestStep) := ⟨tk_3 _ (List.mem_of_getElem? (i := 102) (by decide +kernel)), Or.inl rfl⟩
theorem wd_593 : kG (Cond.selects RX4 yX4_weakestStep yX4_weakestStep) := ⟨tk_3 _ (List.mem_of_getElem? (i := 103) (by decide +kernel)), Or.inl rfl⟩
theorem wd_594 : kG (Cond.code yX4_weakestStep cX4_weakestStep 5 (some .int)) := ⟨tk_3 _ (List.mem_of_getElem? (i := 104) (by decide +kernel)), Or.inl rfl⟩
theorem wd_595 : kG (Cond.methodLink RX4 89 yX8_bit) := ⟨tk_3 _ (List.mem_of_getElem? (i := 105) (by decide +kernel)), Or.inl rfl⟩
theorem wd_596 : kG (Cond.static yX8_bit) := ⟨tk_3 _ (List.mem_of_getElem? (i := 95) (by decide +kernel)), Or.inl rfl⟩
theorem wd_597 : kG (Cond.code yX8_bit cX8_bit 2 (some .int)) := ⟨tk_3 _ (List.mem_of_getElem? (i := 96) (by decide +kernel)), Or.inl rfl⟩
theorem wd_598 : kG (Cond.methodLink RX4 92 yX4_energyOf) := ⟨tk_3 _ (List.mem_of_getElem? (i := 106) (by decide +kernel)), Or.inl rfl⟩
theorem gp_wsX11_weakest_r2 : GoodIn lw_tbl wsX11_weakest_r2 := k_gc wd_52 (k_gc wd_591 (k_gc wd_592 (k_gc wd_593 (k_gc wd_34 (k_gc wd_594 (k_gc wd_595 (k_gc wd_596 (k_gc wd_388 (k_gc wd_597 (k_gc wd_598 (k_gc wd_380 (k_gc wd_381 (k_gc wd_382 (k_gc wd_383 (k_gc wd_384 (k_gc wd_385 (k_gc wd_386 (k_gc wd_387 (k_gc wd_389 (k_gc wd_390 (k_gc wd_391 (k_gc wd_392 (k_gc wd_393 k_gn)))))))))))))))))))))))
theorem gp_wsX11_weakest_r3 : GoodIn lw_tbl wsX11_weakest_r3 := k_gc wd_394 (k_gc wd_395 (k_gc wd_396 (k_gc wd_397 (k_gc wd_398 (k_gc wd_399 (k_gc wd_347 (k_gc wd_348 (k_gc wd_349 (k_gc wd_350 k_gn)))))))))
theorem gp_wsX11_weakest : GoodIn lw_tbl wsX11_weakest := k_gc wd_590 (goodIn_app (goodIn_app (goodIn_app (goodIn_app (gp_wsX11_weakest_r1) (goodIn_app (gp_wsX11_weakest_r2) (gp_wsX11_weakest_r3))) (k_G_wsX110)) (k_G_wsX90)) (k_G_wsX40))
theorem wd_599 : kG (Cond.methodLink RL 170 yX11_weakest) := ⟨tk_3 _ (List.mem_of_getElem? (i := 97) (by decide +kernel)), Or.inl rfl⟩
theorem wd_600 : kG (Cond.instanceMethod yX11_weakest) := ⟨tk_3 _ (List.mem_of_getElem? (i := 98) (by decide +kernel)), Or.inl rfl⟩
theorem wd_601 : kG (Cond.selects RX11 yX11_weakest yX11_weakest) := ⟨tk_3 _ (List.mem_of_getElem? (i := 99) (by decide +kernel)), Or.inl rfl⟩
theorem wd_602 : kG (Cond.code yX11_relaxed cX11_relaxed 2 (some .int)) := ⟨tk_3 _ (List.mem_of_getElem? (i := 120) (by decide +kernel)), Or.inl rfl⟩
theorem gp_wsX11_relaxed_r1 : GoodIn lw_tbl wsX11_relaxed_r1 := k_gc wd_31 (k_gc wd_35 (k_gc wd_15 (k_gc wd_474 (k_gc wd_475 (k_gc wd_476 (k_gc wd_112 (k_gc wd_477 (k_gc wd_144 (k_gc wd_145 (k_gc wd_146 (k_gc wd_147 (k_gc wd_148 (k_gc wd_478 (k_gc wd_342 (k_gc wd_343 (k_gc wd_14 (k_gc wd_344 (k_gc wd_51 (k_gc wd_314 (k_gc wd_315 (k_gc wd_479 (k_gc wd_317 (k_gc wd_318 k_gn)))))))))))))))))))))))
theorem wd_603 : kG (Cond.methodLink RX11 228 yX5_settle) := ⟨tk_3 _ (List.mem_of_getElem? (i := 111) (by decide +kernel)), Or.inl rfl⟩
theorem wd_604 : kG (Cond.instanceMethod yX5_settle) := ⟨tk_3 _ (List.mem_of_getElem? (i := 112) (by decide +kernel)), Or.inl rfl⟩
theorem wd_605 : kG (Cond.selects RX5 yX5_settle yX5_settle) := ⟨tk_3 _ (List.mem_of_getElem? (i := 113) (by decide +kernel)), Or.inl rfl⟩
theorem wd_606 : kG (Cond.code yX5_settle cX5_settle 6 none) := ⟨tk_3 _ (List.mem_of_getElem? (i := 114) (by decide +kernel)), Or.inl rfl⟩
theorem wd_607 : kG (Cond.fieldLink RX5 69 "ClosePacking$Landscape" "rowAtRest" "I") := ⟨tk_1 _ (List.mem_of_getElem? (i := 164) (by decide +kernel)), Or.inl rfl⟩
theorem wd_608 : kG (Cond.fieldLink RX5 72 "ClosePacking$Landscape" "slipsToRest" "I") := ⟨tk_1 _ (List.mem_of_getElem? (i := 166) (by decide +kernel)), Or.inl rfl⟩
theorem wd_609 : kG (Cond.methodLink RX5 75 yX4_weakestStep) := ⟨tk_3 _ (List.mem_of_getElem? (i := 115) (by decide +kernel)), Or.inl rfl⟩
theorem gp_wsX11_relaxed_r2 : GoodIn lw_tbl wsX11_relaxed_r2 := k_gc wd_319 (k_gc wd_52 (k_gc wd_603 (k_gc wd_604 (k_gc wd_605 (k_gc wd_30 (k_gc wd_606 (k_gc wd_607 (k_gc wd_608 (k_gc wd_609 (k_gc wd_592 (k_gc wd_593 (k_gc wd_34 (k_gc wd_594 (k_gc wd_595 (k_gc wd_596 (k_gc wd_388 (k_gc wd_597 (k_gc wd_598 (k_gc wd_380 (k_gc wd_381 (k_gc wd_382 (k_gc wd_383 (k_gc wd_384 k_gn)))))))))))))))))))))))
theorem wd_610 : kG (Cond.methodLink RX5 78 yX8_bit) := ⟨tk_3 _ (List.mem_of_getElem? (i := 116) (by decide +kernel)), Or.inl rfl⟩
theorem gp_wsX11_relaxed_r3 : GoodIn lw_tbl wsX11_relaxed_r3 := k_gc wd_385 (k_gc wd_386 (k_gc wd_387 (k_gc wd_389 (k_gc wd_390 (k_gc wd_391 (k_gc wd_392 (k_gc wd_393 (k_gc wd_394 (k_gc wd_395 (k_gc wd_396 (k_gc wd_397 (k_gc wd_398 (k_gc wd_399 (k_gc wd_610 (k_gc wd_379 (k_gc wd_347 (k_gc wd_348 (k_gc wd_349 (k_gc wd_350 k_gn)))))))))))))))))))
theorem gp_wsX11_relaxed : GoodIn lw_tbl wsX11_relaxed := k_gc wd_602 (goodIn_app (goodIn_app (goodIn_app (goodIn_app (goodIn_app (gp_wsX11_relaxed_r1) (goodIn_app (gp_wsX11_relaxed_r2) (gp_wsX11_relaxed_r3))) (k_G_wsX110)) (k_G_wsX50)) (k_G_wsX90)) (k_G_wsX40))
theorem wd_611 : kG (Cond.methodLink RL 173 yX11_relaxed) := ⟨tk_3 _ (List.mem_of_getElem? (i := 117) (by decide +kernel)), Or.inl rfl⟩
theorem wd_612 : kG (Cond.instanceMethod yX11_relaxed) := ⟨tk_3 _ (List.mem_of_getElem? (i := 118) (by decide +kernel)), Or.inl rfl⟩
theorem wd_613 : kG (Cond.selects RX11 yX11_relaxed yX11_relaxed) := ⟨tk_3 _ (List.mem_of_getElem? (i := 119) (by decide +kernel)), Or.inl rfl⟩
theorem wd_614 : kG (Cond.code yX11_relax cX11_relax 2 (some .int)) := ⟨tk_3 _ (List.mem_of_getElem? (i := 110) (by decide +kernel)), Or.inl rfl⟩
theorem gp_wsX11_relax_r1 : GoodIn lw_tbl wsX11_relax_r1 := k_gc wd_31 (k_gc wd_35 (k_gc wd_15 (k_gc wd_474 (k_gc wd_475 (k_gc wd_476 (k_gc wd_112 (k_gc wd_477 (k_gc wd_144 (k_gc wd_145 (k_gc wd_146 (k_gc wd_147 (k_gc wd_148 (k_gc wd_478 (k_gc wd_342 (k_gc wd_343 (k_gc wd_14 (k_gc wd_344 (k_gc wd_51 (k_gc wd_314 (k_gc wd_315 (k_gc wd_479 (k_gc wd_317 (k_gc wd_318 k_gn)))))))))))))))))))))))
theorem gp_wsX11_relax_r2 : GoodIn lw_tbl wsX11_relax_r2 := k_gc wd_319 (k_gc wd_52 (k_gc wd_603 (k_gc wd_604 (k_gc wd_605 (k_gc wd_30 (k_gc wd_606 (k_gc wd_607 (k_gc wd_608 (k_gc wd_609 (k_gc wd_592 (k_gc wd_593 (k_gc wd_34 (k_gc wd_594 (k_gc wd_595 (k_gc wd_596 (k_gc wd_388 (k_gc wd_597 (k_gc wd_598 (k_gc wd_380 (k_gc wd_381 (k_gc wd_382 (k_gc wd_383 (k_gc wd_384 k_gn)))))))))))))))))))))))
theorem gp_wsX11_relax_r3 : GoodIn lw_tbl wsX11_relax_r3 := k_gc wd_385 (k_gc wd_386 (k_gc wd_387 (k_gc wd_389 (k_gc wd_390 (k_gc wd_391 (k_gc wd_392 (k_gc wd_393 (k_gc wd_394 (k_gc wd_395 (k_gc wd_396 (k_gc wd_397 (k_gc wd_398 (k_gc wd_399 (k_gc wd_610 (k_gc wd_379 (k_gc wd_347 (k_gc wd_348 (k_gc wd_349 (k_gc wd_350 k_gn)))))))))))))))))))
theorem gp_wsX11_relax : GoodIn lw_tbl wsX11_relax := k_gc wd_614 (goodIn_app (goodIn_app (goodIn_app (goodIn_app (goodIn_app (gp_wsX11_relax_r1) (goodIn_app (gp_wsX11_relax_r2) (gp_wsX11_relax_r3))) (k_G_wsX110)) (k_G_wsX50)) (k_G_wsX90)) (k_G_wsX40))
theorem wd_615 : kG (Cond.methodLink RL 176 yX11_relax) := ⟨tk_3 _ (List.mem_of_getElem? (i := 107) (by decide +kernel)), Or.inl rfl⟩
theorem wd_616 : kG (Cond.instanceMethod yX11_relax) := ⟨tk_3 _ (List.mem_of_getElem? (i := 108) (by decide +kernel)), Or.inl rfl⟩
theorem wd_617 : kG (Cond.selects RX11 yX11_relax yX11_relax) := ⟨tk_3 _ (List.mem_of_getElem? (i := 109) (by decide +kernel)), Or.inl rfl⟩
theorem wd_618 : kG (Cond.code yX11_slipEnergy cX11_slipEnergy 4 (some .int)) := ⟨tk_3 _ (List.mem_of_getElem? (i := 93) (by decide +kernel)), Or.inl rfl⟩
theorem gp_wsX11_slipEnergy_r1 : GoodIn lw_tbl wsX11_slipEnergy_r1 := k_gc wd_430 (k_gc wd_15 (k_gc wd_35 (k_gc wd_474 (k_gc wd_475 (k_gc wd_476 (k_gc wd_112 (k_gc wd_477 (k_gc wd_144 (k_gc wd_145 (k_gc wd_146 (k_gc wd_147 (k_gc wd_148 (k_gc wd_479 (k_gc wd_317 (k_gc wd_318 (k_gc wd_14 (k_gc wd_319 (k_gc wd_52 (k_gc wd_314 (k_gc wd_315 (k_gc wd_478 (k_gc wd_342 (k_gc wd_343 k_gn)))))))))))))))))))))))
theorem wd_619 : kG (Cond.methodLink RX11 222 yX8_bit) := ⟨tk_3 _ (List.mem_of_getElem? (i := 94) (by decide +kernel)), Or.inl rfl⟩
theorem gp_wsX11_slipEnergy_r2 : GoodIn lw_tbl wsX11_slipEnergy_r2 := k_gc wd_344 (k_gc wd_51 (k_gc wd_619 (k_gc wd_596 (k_gc wd_388 (k_gc wd_597 (k_gc wd_549 (k_gc wd_380 (k_gc wd_381 (k_gc wd_34 (k_gc wd_382 (k_gc wd_383 (k_gc wd_384 (k_gc wd_385 (k_gc wd_386 (k_gc wd_387 (k_gc wd_389 (k_gc wd_390 (k_gc wd_391 (k_gc wd_392 (k_gc wd_393 (k_gc wd_394 (k_gc wd_395 (k_gc wd_396 k_gn)))))))))))))))))))))))
theorem gp_wsX11_slipEnergy_r3 : GoodIn lw_tbl wsX11_slipEnergy_r3 := k_gc wd_397 (k_gc wd_398 (k_gc wd_399 (k_gc wd_347 (k_gc wd_348 (k_gc wd_349 (k_gc wd_350 k_gn))))))
theorem gp_wsX11_slipEnergy : GoodIn lw_tbl wsX11_slipEnergy := k_gc wd_618 (goodIn_app (goodIn_app (goodIn_app (goodIn_app (gp_wsX11_slipEnergy_r1) (goodIn_app (gp_wsX11_slipEnergy_r2) (gp_wsX11_slipEnergy_r3))) (k_G_wsX110)) (k_G_wsX90)) (k_G_wsX40))
theorem wd_620 : kG (Cond.methodLink RL 179 yX11_slipEnergy) := ⟨tk_3 _ (List.mem_of_getElem? (i := 90) (by decide +kernel)), Or.inl rfl⟩
theorem wd_621 : kG (Cond.instanceMethod yX11_slipEnergy) := ⟨tk_3 _ (List.mem_of_getElem? (i := 91) (by decide +kernel)), Or.inl rfl⟩
theorem wd_622 : kG (Cond.selects RX11 yX11_slipEnergy yX11_slipEnergy) := ⟨tk_3 _ (List.mem_of_getElem? (i := 92) (by decide +kernel)), Or.inl rfl⟩
theorem wd_623 : kG (Cond.code yX11_faultEnergy cX11_faultEnergy 4 (some .int)) := ⟨tk_3 _ (List.mem_of_getElem? (i := 147) (by decide +kernel)), Or.inl rfl⟩
theorem gp_wsX11_faultEnergy_r1 : GoodIn lw_tbl wsX11_faultEnergy_r1 := k_gc wd_430 (k_gc wd_15 (k_gc wd_35 (k_gc wd_474 (k_gc wd_475 (k_gc wd_476 (k_gc wd_112 (k_gc wd_477 (k_gc wd_144 (k_gc wd_145 (k_gc wd_146 (k_gc wd_147 (k_gc wd_148 (k_gc wd_479 (k_gc wd_317 (k_gc wd_318 (k_gc wd_14 (k_gc wd_319 (k_gc wd_52 (k_gc wd_314 (k_gc wd_315 (k_gc wd_478 (k_gc wd_342 (k_gc wd_343 k_gn)))))))))))))))))))))))
theorem wd_624 : kG (Cond.methodLink RX11 244 yX8_otherFrom) := ⟨tk_3 _ (List.mem_of_getElem? (i := 148) (by decide +kernel)), Or.inl rfl⟩
theorem wd_625 : kG (Cond.static yX8_otherFrom) := ⟨tk_3 _ (List.mem_of_getElem? (i := 149) (by decide +kernel)), Or.inl rfl⟩
theorem wd_626 : kG (Cond.code yX8_otherFrom cX8_otherFrom 3 (some .int)) := ⟨tk_3 _ (List.mem_of_getElem? (i := 150) (by decide +kernel)), Or.inl rfl⟩
theorem gp_wsX11_faultEnergy_r2 : GoodIn lw_tbl wsX11_faultEnergy_r2 := k_gc wd_344 (k_gc wd_51 (k_gc wd_624 (k_gc wd_625 (k_gc wd_388 (k_gc wd_626 (k_gc wd_458 (k_gc wd_440 (k_gc wd_441 (k_gc wd_549 (k_gc wd_380 (k_gc wd_381 (k_gc wd_34 (k_gc wd_382 (k_gc wd_383 (k_gc wd_384 (k_gc wd_385 (k_gc wd_386 (k_gc wd_387 (k_gc wd_389 (k_gc wd_390 (k_gc wd_391 (k_gc wd_392 (k_gc wd_393 k_gn)))))))))))))))))))))))
theorem gp_wsX11_faultEnergy_r3 : GoodIn lw_tbl wsX11_faultEnergy_r3 := k_gc wd_394 (k_gc wd_395 (k_gc wd_396 (k_gc wd_397 (k_gc wd_398 (k_gc wd_399 (k_gc wd_347 (k_gc wd_348 (k_gc wd_349 (k_gc wd_350 k_gn)))))))))
theorem gp_wsX11_faultEnergy : GoodIn lw_tbl wsX11_faultEnergy := k_gc wd_623 (goodIn_app (goodIn_app (goodIn_app (goodIn_app (gp_wsX11_faultEnergy_r1) (goodIn_app (gp_wsX11_faultEnergy_r2) (gp_wsX11_faultEnergy_r3))) (k_G_wsX110)) (k_G_wsX90)) (k_G_wsX40))
theorem wd_627 : kG (Cond.methodLink RL 182 yX11_faultEnergy) := ⟨tk_3 _ (List.mem_of_getElem? (i := 144) (by decide +kernel)), Or.inl rfl⟩
theorem wd_628 : kG (Cond.instanceMethod yX11_faultEnergy) := ⟨tk_3 _ (List.mem_of_getElem? (i := 145) (by decide +kernel)), Or.inl rfl⟩
theorem wd_629 : kG (Cond.selects RX11 yX11_faultEnergy yX11_faultEnergy) := ⟨tk_3 _ (List.mem_of_getElem? (i := 146) (by decide +kernel)), Or.inl rfl⟩
theorem wd_630 : kG (Cond.code yX11_bestFault cX11_bestFault 8 (some .int)) := ⟨tk_3 _ (List.mem_of_getElem? (i := 154) (by decide +kernel)), Or.inl rfl⟩
theorem gp_wsX11_bestFault_r1 : GoodIn lw_tbl wsX11_bestFault_r1 := k_gc wd_15 (k_gc wd_35 (k_gc wd_474 (k_gc wd_475 (k_gc wd_476 (k_gc wd_112 (k_gc wd_477 (k_gc wd_144 (k_gc wd_145 (k_gc wd_146 (k_gc wd_147 (k_gc wd_148 (k_gc wd_478 (k_gc wd_342 (k_gc wd_343 (k_gc wd_14 (k_gc wd_344 (k_gc wd_51 (k_gc wd_314 (k_gc wd_315 (k_gc wd_479 (k_gc wd_317 (k_gc wd_318 (k_gc wd_319 k_gn)))))))))))))))))))))))
theorem gp_wsX11_bestFault_r2 : GoodIn lw_tbl wsX11_bestFault_r2 := k_gc wd_52 (k_gc wd_624 (k_gc wd_625 (k_gc wd_388 (k_gc wd_626 (k_gc wd_458 (k_gc wd_440 (k_gc wd_441 (k_gc wd_549 (k_gc wd_380 (k_gc wd_381 (k_gc wd_34 (k_gc wd_382 (k_gc wd_383 (k_gc wd_384 (k_gc wd_385 (k_gc wd_386 (k_gc wd_387 (k_gc wd_389 (k_gc wd_390 (k_gc wd_391 (k_gc wd_392 (k_gc wd_393 (k_gc wd_394 k_gn)))))))))))))))))))))))
theorem gp_wsX11_bestFault_r3 : GoodIn lw_tbl wsX11_bestFault_r3 := k_gc wd_395 (k_gc wd_396 (k_gc wd_397 (k_gc wd_398 (k_gc wd_399 (k_gc wd_347 (k_gc wd_348 (k_gc wd_349 (k_gc wd_350 k_gn))))))))
theorem gp_wsX11_bestFault : GoodIn lw_tbl wsX11_bestFault := k_gc wd_630 (goodIn_app (goodIn_app (goodIn_app (goodIn_app (gp_wsX11_bestFault_r1) (goodIn_app (gp_wsX11_bestFault_r2) (gp_wsX11_bestFault_r3))) (k_G_wsX110)) (k_G_wsX90)) (k_G_wsX40))
theorem wd_631 : kG (Cond.methodLink RL 185 yX11_bestFault) := ⟨tk_3 _ (List.mem_of_getElem? (i := 151) (by decide +kernel)), Or.inl rfl⟩
theorem wd_632 : kG (Cond.instanceMethod yX11_bestFault) := ⟨tk_3 _ (List.mem_of_getElem? (i := 152) (by decide +kernel)), Or.inl rfl⟩
theorem wd_633 : kG (Cond.selects RX11 yX11_bestFault yX11_bestFault) := ⟨tk_3 _ (List.mem_of_getElem? (i := 153) (by decide +kernel)), Or.inl rfl⟩
theorem wd_634 : kG (Cond.code yX11_differs cX11_differs 10 (some .int)) := ⟨tk_3 _ (List.mem_of_getElem? (i := 158) (by decide +kernel)), Or.inl rfl⟩
theorem gp_wsX11_differs_r1 : GoodIn lw_tbl wsX11_differs_r1 := k_gc wd_15 (k_gc wd_474 (k_gc wd_475 (k_gc wd_476 (k_gc wd_112 (k_gc wd_477 (k_gc wd_144 (k_gc wd_145 (k_gc wd_146 (k_gc wd_147 (k_gc wd_148 (k_gc wd_478 (k_gc wd_342 (k_gc wd_343 (k_gc wd_14 (k_gc wd_344 (k_gc wd_51 (k_gc wd_314 (k_gc wd_315 (k_gc wd_479 (k_gc wd_317 (k_gc wd_318 (k_gc wd_319 (k_gc wd_52 k_gn)))))))))))))))))))))))
theorem gp_wsX11_differs_r2 : GoodIn lw_tbl wsX11_differs_r2 := k_gc wd_480 (k_gc wd_481 (k_gc wd_388 (k_gc wd_482 (k_gc wd_445 (k_gc wd_446 (k_gc wd_447 (k_gc wd_448 (k_gc wd_394 (k_gc wd_395 (k_gc wd_396 (k_gc wd_397 (k_gc wd_398 (k_gc wd_399 (k_gc wd_539 (k_gc wd_540 (k_gc wd_541 (k_gc wd_542 (k_gc wd_522 (k_gc wd_523 (k_gc wd_511 (k_gc wd_512 (k_gc wd_513 (k_gc wd_524 k_gn)))))))))))))))))))))))
theorem gp_wsX11_differs_r3 : GoodIn lw_tbl wsX11_differs_r3 := k_gc wd_525 (k_gc wd_526 (k_gc wd_465 (k_gc wd_387 (k_gc wd_389 (k_gc wd_543 (k_gc wd_532 (k_gc wd_533 (k_gc wd_544 (k_gc wd_347 (k_gc wd_348 (k_gc wd_349 (k_gc wd_350 k_gn))))))))))))
theorem gp_wsX11_differs : GoodIn lw_tbl wsX11_differs := k_gc wd_634 (goodIn_app (goodIn_app (goodIn_app (gp_wsX11_differs_r1) (goodIn_app (gp_wsX11_differs_r2) (gp_wsX11_differs_r3))) (k_G_wsX110)) (k_G_wsX90))
theorem wd_635 : kG (Cond.methodLink RL 188 yX11_differs) := ⟨tk_3 _ (List.mem_of_getElem? (i := 155) (by decide +kernel)), Or.inl rfl⟩
theorem wd_636 : kG (Cond.instanceMethod yX11_differs) := ⟨tk_3 _ (List.mem_of_getElem? (i := 156) (by decide +kernel)), Or.inl rfl⟩
theorem wd_637 : kG (Cond.selects RX11 yX11_differs yX11_differs) := ⟨tk_3 _ (List.mem_of_getElem? (i := 157) (by decide +kernel)), Or.inl rfl⟩
theorem wd_638 : kG (Cond.code yX11_sameLines cX11_sameLines 7 (some .int)) := ⟨tk_2 _ (List.mem_of_getElem? (i := 223) (by decide +kernel)), Or.inl rfl⟩
theorem gp_wsX11_sameLines_r1 : GoodIn lw_tbl wsX11_sameLines_r1 := k_gc wd_15 (k_gc wd_27 (k_gc wd_474 (k_gc wd_475 (k_gc wd_476 (k_gc wd_112 (k_gc wd_477 (k_gc wd_144 (k_gc wd_145 (k_gc wd_146 (k_gc wd_147 (k_gc wd_148 (k_gc wd_478 (k_gc wd_342 (k_gc wd_343 (k_gc wd_14 (k_gc wd_344 (k_gc wd_51 (k_gc wd_314 (k_gc wd_315 (k_gc wd_479 (k_gc wd_317 (k_gc wd_318 (k_gc wd_319 k_gn)))))))))))))))))))))))
theorem gp_wsX11_sameLines_r2 : GoodIn lw_tbl wsX11_sameLines_r2 := k_gc wd_52 (k_gc wd_480 (k_gc wd_481 (k_gc wd_388 (k_gc wd_482 (k_gc wd_445 (k_gc wd_446 (k_gc wd_447 (k_gc wd_448 (k_gc wd_394 (k_gc wd_395 (k_gc wd_396 (k_gc wd_397 (k_gc wd_398 (k_gc wd_399 (k_gc wd_558 (k_gc wd_559 (k_gc wd_560 (k_gc wd_26 (k_gc wd_561 (k_gc wd_562 (k_gc wd_563 (k_gc wd_564 (k_gc wd_565 k_gn)))))))))))))))))))))))
theorem gp_wsX11_sameLines_r3 : GoodIn lw_tbl wsX11_sameLines_r3 := k_gc wd_566 (k_gc wd_567 (k_gc wd_67 (k_gc wd_300 (k_gc wd_301 (k_gc wd_568 (k_gc wd_512 (k_gc wd_513 (k_gc wd_569 (k_gc wd_525 (k_gc wd_526 (k_gc wd_570 (k_gc wd_387 (k_gc wd_389 (k_gc wd_571 (k_gc wd_572 (k_gc wd_573 (k_gc wd_574 (k_gc wd_68 (k_gc wd_575 (k_gc wd_576 (k_gc wd_577 (k_gc wd_578 (k_gc wd_347 k_gn)))))))))))))))))))))))
theorem gp_wsX11_sameLines_r4 : GoodIn lw_tbl wsX11_sameLines_r4 := k_gc wd_348 (k_gc wd_349 (k_gc wd_350 k_gn))
theorem gp_wsX11_sameLines : GoodIn lw_tbl wsX11_sameLines := k_gc wd_638 (goodIn_app (goodIn_app (goodIn_app (goodIn_app (gp_wsX11_sameLines_r1) (goodIn_app (gp_wsX11_sameLines_r2) (goodIn_app (gp_wsX11_sameLines_r3) (gp_wsX11_sameLines_r4)))) (k_G_wsX110)) (k_G_wsX90)) (k_G_wsX60))
theorem wd_639 : kG (Cond.methodLink RL 191 yX11_sameLines) := ⟨tk_2 _ (List.mem_of_getElem? (i := 220) (by decide +kernel)), Or.inl rfl⟩
theorem wd_640 : kG (Cond.instanceMethod yX11_sameLines) := ⟨tk_2 _ (List.mem_of_getElem? (i := 221) (by decide +kernel)), Or.inl rfl⟩
theorem wd_641 : kG (Cond.selects RX11 yX11_sameLines yX11_sameLines) := ⟨tk_2 _ (List.mem_of_getElem? (i := 222) (by decide +kernel)), Or.inl rfl⟩
theorem wd_642 : kG (Cond.code yX11_pass cX11_pass 4 (some .int)) := ⟨tk_3 _ (List.mem_of_getElem? (i := 124) (by decide +kernel)), Or.inl rfl⟩
theorem gp_wsX11_pass_r1 : GoodIn lw_tbl wsX11_pass_r1 := k_gc wd_430 (k_gc wd_15 (k_gc wd_31 (k_gc wd_35 (k_gc wd_474 (k_gc wd_475 (k_gc wd_476 (k_gc wd_112 (k_gc wd_477 (k_gc wd_144 (k_gc wd_145 (k_gc wd_146 (k_gc wd_147 (k_gc wd_148 (k_gc wd_479 (k_gc wd_317 (k_gc wd_318 (k_gc wd_14 (k_gc wd_319 (k_gc wd_52 (k_gc wd_314 (k_gc wd_315 (k_gc wd_373 (k_gc wd_374 k_gn)))))))))))))))))))))))
theorem gp_wsX11_pass_r2 : GoodIn lw_tbl wsX11_pass_r2 := k_gc wd_375 (k_gc wd_30 (k_gc wd_376 (k_gc wd_377 (k_gc wd_378 (k_gc wd_72 (k_gc wd_379 (k_gc wd_380 (k_gc wd_381 (k_gc wd_34 (k_gc wd_382 (k_gc wd_383 (k_gc wd_384 (k_gc wd_385 (k_gc wd_386 (k_gc wd_387 (k_gc wd_388 (k_gc wd_389 (k_gc wd_390 (k_gc wd_391 (k_gc wd_392 (k_gc wd_393 (k_gc wd_394 (k_gc wd_395 k_gn)))))))))))))))))))))))
theorem wd_643 : kG (Cond.methodLink RX11 238 yX5_lowestPass) := ⟨tk_3 _ (List.mem_of_getElem? (i := 125) (by decide +kernel)), Or.inl rfl⟩
theorem wd_644 : kG (Cond.instanceMethod yX5_lowestPass) := ⟨tk_3 _ (List.mem_of_getElem? (i := 126) (by decide +kernel)), Or.inl rfl⟩
theorem wd_645 : kG (Cond.selects RX5 yX5_lowestPass yX5_lowestPass) := ⟨tk_3 _ (List.mem_of_getElem? (i := 127) (by decide +kernel)), Or.inl rfl⟩
theorem wd_646 : kG (Cond.code yX5_lowestPass cX5_lowestPass 5 (some .int)) := ⟨tk_3 _ (List.mem_of_getElem? (i := 128) (by decide +kernel)), Or.inl rfl⟩
theorem wd_647 : kG (Cond.methodLink RX5 63 Lib.Math.max.name) := ⟨tk_3 _ (List.mem_of_getElem? (i := 129) (by decide +kernel)), Or.inl rfl⟩
theorem wd_648 : kG (Cond.fieldLink RX5 56 "ClosePacking$Landscape" "leastAbove" "I") := ⟨tk_1 _ (List.mem_of_getElem? (i := 163) (by decide +kernel)), Or.inl rfl⟩
theorem wd_649 : kG (Cond.methodLink RX5 66 yX5_flood) := ⟨tk_3 _ (List.mem_of_getElem? (i := 130) (by decide +kernel)), Or.inl rfl⟩
theorem wd_650 : kG (Cond.instanceMethod yX5_flood) := ⟨tk_3 _ (List.mem_of_getElem? (i := 131) (by decide +kernel)), Or.inl rfl⟩
theorem wd_651 : kG (Cond.selects RX5 yX5_flood yX5_flood) := ⟨tk_3 _ (List.mem_of_getElem? (i := 132) (by decide +kernel)), Or.inl rfl⟩
theorem gp_wsX11_pass_r3 : GoodIn lw_tbl wsX11_pass_r3 := k_gc wd_396 (k_gc wd_397 (k_gc wd_398 (k_gc wd_399 (k_gc wd_300 (k_gc wd_301 (k_gc wd_478 (k_gc wd_342 (k_gc wd_343 (k_gc wd_344 (k_gc wd_51 (k_gc wd_643 (k_gc wd_644 (k_gc wd_645 (k_gc wd_646 (k_gc wd_647 (k_gc wd_493 (k_gc wd_410 (k_gc wd_494 (k_gc wd_75 (k_gc wd_648 (k_gc wd_649 (k_gc wd_650 (k_gc wd_651 k_gn)))))))))))))))))))))))
theorem wd_652 : kG (Cond.code yX5_flood cX5_flood 6 (some .int)) := ⟨tk_3 _ (List.mem_of_getElem? (i := 133) (by decide +kernel)), Or.inl rfl⟩
theorem wd_653 : kG (Cond.fieldLink RX5 52 "ClosePacking$Landscape" "queued" "I") := ⟨tk_1 _ (List.mem_of_getElem? (i := 162) (by decide +kernel)), Or.inl rfl⟩
theorem wd_654 : kG (Cond.constant RX5 55 (1000000)) := ⟨tk_3 _ (List.mem_of_getElem? (i := 134) (by decide +kernel)), Or.inl rfl⟩
theorem wd_655 : kG (Cond.methodLink RX5 59 yX5_reach) := ⟨tk_3 _ (List.mem_of_getElem? (i := 135) (by decide +kernel)), Or.inl rfl⟩
theorem wd_656 : kG (Cond.instanceMethod yX5_reach) := ⟨tk_3 _ (List.mem_of_getElem? (i := 137) (by decide +kernel)), Or.inl rfl⟩
theorem wd_657 : kG (Cond.selects RX5 yX5_reach yX5_reach) := ⟨List.mem_of_getElem? (i := 8) (by decide +kernel), Or.inl rfl⟩
theorem wd_658 : kG (Cond.code yX5_reach cX5_reach 2 none) := ⟨tk_3 _ (List.mem_of_getElem? (i := 138) (by decide +kernel)), Or.inl rfl⟩
theorem gp_wsX11_pass_r4 : GoodIn lw_tbl wsX11_pass_r4 := k_gc wd_652 (k_gc wd_653 (k_gc wd_654 (k_gc wd_73 (k_gc wd_408 (k_gc wd_409 (k_gc wd_411 (k_gc wd_655 (k_gc wd_656 (k_gc wd_657 (k_gc wd_658 (k_gc wd_347 (k_gc wd_348 (k_gc wd_349 (k_gc wd_350 k_gn))))))))))))))
theorem gp_wsX11_pass : GoodIn lw_tbl wsX11_pass := k_gc wd_642 (goodIn_app (goodIn_app (goodIn_app (goodIn_app (goodIn_app (gp_wsX11_pass_r1) (goodIn_app (gp_wsX11_pass_r2) (goodIn_app (gp_wsX11_pass_r3) (gp_wsX11_pass_r4)))) (k_G_wsX110)) (k_G_wsX90)) (k_G_wsX50)) (k_G_wsX40))
theorem wd_659 : kG (Cond.methodLink RL 194 yX11_pass) := ⟨tk_3 _ (List.mem_of_getElem? (i := 121) (by decide +kernel)), Or.inl rfl⟩
theorem wd_660 : kG (Cond.instanceMethod yX11_pass) := ⟨tk_3 _ (List.mem_of_getElem? (i := 122) (by decide +kernel)), Or.inl rfl⟩
theorem wd_661 : kG (Cond.selects RX11 yX11_pass yX11_pass) := ⟨tk_3 _ (List.mem_of_getElem? (i := 123) (by decide +kernel)), Or.inl rfl⟩
theorem wd_662 : kG (Cond.code yX11_valley cX11_valley 4 (some .int)) := ⟨tk_3 _ (List.mem_of_getElem? (i := 142) (by decide +kernel)), Or.inl rfl⟩
theorem gp_wsX11_valley_r1 : GoodIn lw_tbl wsX11_valley_r1 := k_gc wd_15 (k_gc wd_31 (k_gc wd_35 (k_gc wd_474 (k_gc wd_475 (k_gc wd_476 (k_gc wd_112 (k_gc wd_477 (k_gc wd_144 (k_gc wd_145 (k_gc wd_146 (k_gc wd_147 (k_gc wd_148 (k_gc wd_479 (k_gc wd_317 (k_gc wd_318 (k_gc wd_14 (k_gc wd_319 (k_gc wd_52 (k_gc wd_314 (k_gc wd_315 (k_gc wd_478 (k_gc wd_342 (k_gc wd_343 k_gn)))))))))))))))))))))))
theorem gp_wsX11_valley_r2 : GoodIn lw_tbl wsX11_valley_r2 := k_gc wd_344 (k_gc wd_51 (k_gc wd_373 (k_gc wd_374 (k_gc wd_375 (k_gc wd_30 (k_gc wd_376 (k_gc wd_377 (k_gc wd_378 (k_gc wd_72 (k_gc wd_379 (k_gc wd_380 (k_gc wd_381 (k_gc wd_34 (k_gc wd_382 (k_gc wd_383 (k_gc wd_384 (k_gc wd_385 (k_gc wd_386 (k_gc wd_387 (k_gc wd_388 (k_gc wd_389 (k_gc wd_390 (k_gc wd_391 k_gn)))))))))))))))))))))))
theorem wd_663 : kG (Cond.methodLink RX11 241 yX5_flood) := ⟨tk_3 _ (List.mem_of_getElem? (i := 143) (by decide +kernel)), Or.inl rfl⟩
theorem gp_wsX11_valley_r3 : GoodIn lw_tbl wsX11_valley_r3 := k_gc wd_392 (k_gc wd_393 (k_gc wd_394 (k_gc wd_395 (k_gc wd_396 (k_gc wd_397 (k_gc wd_398 (k_gc wd_399 (k_gc wd_300 (k_gc wd_301 (k_gc wd_549 (k_gc wd_663 (k_gc wd_650 (k_gc wd_651 (k_gc wd_652 (k_gc wd_75 (k_gc wd_653 (k_gc wd_654 (k_gc wd_648 (k_gc wd_73 (k_gc wd_408 (k_gc wd_409 (k_gc wd_410 (k_gc wd_411 k_gn)))))))))))))))))))))))
theorem gp_wsX11_valley_r4 : GoodIn lw_tbl wsX11_valley_r4 := k_gc wd_655 (k_gc wd_656 (k_gc wd_657 (k_gc wd_658 (k_gc wd_347 (k_gc wd_348 (k_gc wd_349 (k_gc wd_350 k_gn)))))))
theorem gp_wsX11_valley : GoodIn lw_tbl wsX11_valley := k_gc wd_662 (goodIn_app (goodIn_app (goodIn_app (goodIn_app (goodIn_app (gp_wsX11_valley_r1) (goodIn_app (gp_wsX11_valley_r2) (goodIn_app (gp_wsX11_valley_r3) (gp_wsX11_valley_r4)))) (k_G_wsX110)) (k_G_wsX90)) (k_G_wsX50)) (k_G_wsX40))
theorem wd_664 : kG (Cond.methodLink RL 197 yX11_valley) := ⟨tk_3 _ (List.mem_of_getElem? (i := 139) (by decide +kernel)), Or.inl rfl⟩
theorem wd_665 : kG (Cond.instanceMethod yX11_valley) := ⟨tk_3 _ (List.mem_of_getElem? (i := 140) (by decide +kernel)), Or.inl rfl⟩
theorem wd_666 : kG (Cond.selects RX11 yX11_valley yX11_valley) := ⟨tk_3 _ (List.mem_of_getElem? (i := 141) (by decide +kernel)), Or.inl rfl⟩
theorem wd_667 : kG (Cond.code yX11_least cX11_least 3 (some .int)) := ⟨tk_3 _ (List.mem_of_getElem? (i := 74) (by decide +kernel)), Or.inl rfl⟩
theorem gp_wsX11_least_r1 : GoodIn lw_tbl wsX11_least_r1 := k_gc wd_15 (k_gc wd_474 (k_gc wd_475 (k_gc wd_476 (k_gc wd_112 (k_gc wd_477 (k_gc wd_144 (k_gc wd_145 (k_gc wd_146 (k_gc wd_147 (k_gc wd_148 (k_gc wd_436 (k_gc wd_437 (k_gc wd_438 (k_gc wd_478 (k_gc wd_342 (k_gc wd_343 (k_gc wd_14 (k_gc wd_344 (k_gc wd_51 (k_gc wd_314 (k_gc wd_315 (k_gc wd_479 (k_gc wd_317 k_gn)))))))))))))))))))))))
theorem wd_668 : kG (Cond.methodLink RX11 212 yX8_leastAlike) := ⟨tk_3 _ (List.mem_of_getElem? (i := 64) (by decide +kernel)), Or.inl rfl⟩
theorem wd_669 : kG (Cond.static yX8_leastAlike) := ⟨tk_3 _ (List.mem_of_getElem? (i := 65) (by decide +kernel)), Or.inl rfl⟩
theorem wd_670 : kG (Cond.code yX8_leastAlike cX8_leastAlike 5 (some .int)) := ⟨tk_3 _ (List.mem_of_getElem? (i := 66) (by decide +kernel)), Or.inl rfl⟩
theorem wd_671 : kG (Cond.methodLink RX8 65 Lib.Math.min.name) := ⟨tk_3 _ (List.mem_of_getElem? (i := 70) (by decide +kernel)), Or.inl rfl⟩
theorem gp_wsX11_least_r2 : GoodIn lw_tbl wsX11_least_r2 := k_gc wd_318 (k_gc wd_319 (k_gc wd_52 (k_gc wd_668 (k_gc wd_669 (k_gc wd_388 (k_gc wd_670 (k_gc wd_671 (k_gc wd_409 (k_gc wd_410 (k_gc wd_411 (k_gc wd_462 (k_gc wd_463 (k_gc wd_464 (k_gc wd_452 (k_gc wd_453 (k_gc wd_454 (k_gc wd_455 (k_gc wd_456 (k_gc wd_457 (k_gc wd_458 (k_gc wd_440 (k_gc wd_441 (k_gc wd_459 k_gn)))))))))))))))))))))))
theorem wd_672 : kG (Cond.methodLink RX8 74 yX8_leastTurned) := ⟨tk_3 _ (List.mem_of_getElem? (i := 67) (by decide +kernel)), Or.inl rfl⟩
theorem wd_673 : kG (Cond.static yX8_leastTurned) := ⟨tk_3 _ (List.mem_of_getElem? (i := 68) (by decide +kernel)), Or.inl rfl⟩
theorem wd_674 : kG (Cond.code yX8_leastTurned cX8_leastTurned 5 (some .int)) := ⟨tk_3 _ (List.mem_of_getElem? (i := 69) (by decide +kernel)), Or.inl rfl⟩
theorem gp_wsX11_least_r3 : GoodIn lw_tbl wsX11_least_r3 := k_gc wd_460 (k_gc wd_461 (k_gc wd_672 (k_gc wd_673 (k_gc wd_674 (k_gc wd_465 (k_gc wd_387 (k_gc wd_389 (k_gc wd_347 (k_gc wd_348 (k_gc wd_349 (k_gc wd_350 k_gn)))))))))))
theorem gp_wsX11_least : GoodIn lw_tbl wsX11_least := k_gc wd_667 (goodIn_app (goodIn_app (goodIn_app (gp_wsX11_least_r1) (goodIn_app (gp_wsX11_least_r2) (gp_wsX11_least_r3))) (k_G_wsX110)) (k_G_wsX90))
theorem wd_675 : kG (Cond.methodLink RL 200 yX11_least) := ⟨tk_3 _ (List.mem_of_getElem? (i := 71) (by decide +kernel)), Or.inl rfl⟩
theorem wd_676 : kG (Cond.instanceMethod yX11_least) := ⟨tk_3 _ (List.mem_of_getElem? (i := 72) (by decide +kernel)), Or.inl rfl⟩
theorem wd_677 : kG (Cond.selects RX11 yX11_least yX11_least) := ⟨tk_3 _ (List.mem_of_getElem? (i := 73) (by decide +kernel)), Or.inl rfl⟩
theorem wd_678 : kG (Cond.code yX11_manyAlike cX11_manyAlike 3 (some .int)) := ⟨tk_3 _ (List.mem_of_getElem? (i := 78) (by decide +kernel)), Or.inl rfl⟩
theorem gp_wsX11_manyAlike_r1 : GoodIn lw_tbl wsX11_manyAlike_r1 := k_gc wd_15 (k_gc wd_474 (k_gc wd_475 (k_gc wd_476 (k_gc wd_112 (k_gc wd_477 (k_gc wd_144 (k_gc wd_145 (k_gc wd_146 (k_gc wd_147 (k_gc wd_148 (k_gc wd_436 (k_gc wd_437 (k_gc wd_438 (k_gc wd_478 (k_gc wd_342 (k_gc wd_343 (k_gc wd_14 (k_gc wd_344 (k_gc wd_51 (k_gc wd_314 (k_gc wd_315 (k_gc wd_479 (k_gc wd_317 k_gn)))))))))))))))))))))))
theorem wd_679 : kG (Cond.methodLink RX11 215 yX8_countAlike) := ⟨tk_3 _ (List.mem_of_getElem? (i := 79) (by decide +kernel)), Or.inl rfl⟩
theorem wd_680 : kG (Cond.static yX8_countAlike) := ⟨tk_3 _ (List.mem_of_getElem? (i := 80) (by decide +kernel)), Or.inl rfl⟩
theorem wd_681 : kG (Cond.code yX8_countAlike cX8_countAlike 7 (some .int)) := ⟨tk_3 _ (List.mem_of_getElem? (i := 81) (by decide +kernel)), Or.inl rfl⟩
theorem gp_wsX11_manyAlike_r2 : GoodIn lw_tbl wsX11_manyAlike_r2 := k_gc wd_318 (k_gc wd_319 (k_gc wd_52 (k_gc wd_679 (k_gc wd_680 (k_gc wd_388 (k_gc wd_681 (k_gc wd_462 (k_gc wd_463 (k_gc wd_464 (k_gc wd_452 (k_gc wd_453 (k_gc wd_454 (k_gc wd_455 (k_gc wd_456 (k_gc wd_457 (k_gc wd_458 (k_gc wd_440 (k_gc wd_441 (k_gc wd_459 (k_gc wd_460 (k_gc wd_461 (k_gc wd_672 (k_gc wd_673 k_gn)))))))))))))))))))))))
theorem wd_682 : kG (Cond.methodLink RX8 77 yX8_period) := ⟨tk_3 _ (List.mem_of_getElem? (i := 82) (by decide +kernel)), Or.inl rfl⟩
theorem gp_wsX11_manyAlike_r3 : GoodIn lw_tbl wsX11_manyAlike_r3 := k_gc wd_674 (k_gc wd_671 (k_gc wd_409 (k_gc wd_410 (k_gc wd_411 (k_gc wd_465 (k_gc wd_387 (k_gc wd_389 (k_gc wd_682 (k_gc wd_484 (k_gc wd_485 (k_gc wd_347 (k_gc wd_348 (k_gc wd_349 (k_gc wd_350 k_gn))))))))))))))
theorem gp_wsX11_manyAlike : GoodIn lw_tbl wsX11_manyAlike := k_gc wd_678 (goodIn_app (goodIn_app (goodIn_app (gp_wsX11_manyAlike_r1) (goodIn_app (gp_wsX11_manyAlike_r2) (gp_wsX11_manyAlike_r3))) (k_G_wsX110)) (k_G_wsX90))
theorem wd_683 : kG (Cond.methodLink RL 203 yX11_manyAlike) := ⟨tk_3 _ (List.mem_of_getElem? (i := 75) (by decide +kernel)), Or.inl rfl⟩
theorem wd_684 : kG (Cond.instanceMethod yX11_manyAlike) := ⟨tk_3 _ (List.mem_of_getElem? (i := 76) (by decide +kernel)), Or.inl rfl⟩
theorem wd_685 : kG (Cond.selects RX11 yX11_manyAlike yX11_manyAlike) := ⟨tk_3 _ (List.mem_of_getElem? (i := 77) (by decide +kernel)), Or.inl rfl⟩
theorem wd_686 : kG (Cond.code yX11_alike cX11_alike 6 (some .int)) := ⟨tk_3 _ (List.mem_of_getElem? (i := 63) (by decide +kernel)), Or.inl rfl⟩
theorem gp_wsX11_alike_r1 : GoodIn lw_tbl wsX11_alike_r1 := k_gc wd_15 (k_gc wd_474 (k_gc wd_475 (k_gc wd_476 (k_gc wd_112 (k_gc wd_477 (k_gc wd_144 (k_gc wd_145 (k_gc wd_146 (k_gc wd_147 (k_gc wd_148 (k_gc wd_436 (k_gc wd_437 (k_gc wd_438 (k_gc wd_479 (k_gc wd_317 (k_gc wd_318 (k_gc wd_14 (k_gc wd_319 (k_gc wd_52 (k_gc wd_314 (k_gc wd_315 (k_gc wd_347 (k_gc wd_348 k_gn)))))))))))))))))))))))
theorem gp_wsX11_alike_r2 : GoodIn lw_tbl wsX11_alike_r2 := k_gc wd_349 (k_gc wd_350 (k_gc wd_478 (k_gc wd_342 (k_gc wd_343 (k_gc wd_344 (k_gc wd_51 (k_gc wd_668 (k_gc wd_669 (k_gc wd_388 (k_gc wd_670 (k_gc wd_671 (k_gc wd_409 (k_gc wd_410 (k_gc wd_411 (k_gc wd_462 (k_gc wd_463 (k_gc wd_464 (k_gc wd_452 (k_gc wd_453 (k_gc wd_454 (k_gc wd_455 (k_gc wd_456 (k_gc wd_457 k_gn)))))))))))))))))))))))
theorem gp_wsX11_alike_r3 : GoodIn lw_tbl wsX11_alike_r3 := k_gc wd_458 (k_gc wd_440 (k_gc wd_441 (k_gc wd_459 (k_gc wd_460 (k_gc wd_461 (k_gc wd_672 (k_gc wd_673 (k_gc wd_674 (k_gc wd_465 (k_gc wd_387 (k_gc wd_389 k_gn)))))))))))
theorem gp_wsX11_alike : GoodIn lw_tbl wsX11_alike := k_gc wd_686 (goodIn_app (goodIn_app (goodIn_app (gp_wsX11_alike_r1) (goodIn_app (gp_wsX11_alike_r2) (gp_wsX11_alike_r3))) (k_G_wsX110)) (k_G_wsX90))
theorem wd_687 : kG (Cond.methodLink RL 206 yX11_alike) := ⟨tk_3 _ (List.mem_of_getElem? (i := 60) (by decide +kernel)), Or.inl rfl⟩
theorem wd_688 : kG (Cond.instanceMethod yX11_alike) := ⟨tk_3 _ (List.mem_of_getElem? (i := 61) (by decide +kernel)), Or.inl rfl⟩
theorem wd_689 : kG (Cond.selects RX11 yX11_alike yX11_alike) := ⟨tk_3 _ (List.mem_of_getElem? (i := 62) (by decide +kernel)), Or.inl rfl⟩
theorem wd_690 : kG (Cond.code yX11_slips cX11_slips 5 (some .int)) := ⟨tk_3 _ (List.mem_of_getElem? (i := 86) (by decide +kernel)), Or.inl rfl⟩
theorem gp_wsX11_slips_r1 : GoodIn lw_tbl wsX11_slips_r1 := k_gc wd_15 (k_gc wd_474 (k_gc wd_475 (k_gc wd_476 (k_gc wd_112 (k_gc wd_477 (k_gc wd_144 (k_gc wd_145 (k_gc wd_146 (k_gc wd_147 (k_gc wd_148 (k_gc wd_436 (k_gc wd_437 (k_gc wd_438 (k_gc wd_479 (k_gc wd_317 (k_gc wd_318 (k_gc wd_14 (k_gc wd_319 (k_gc wd_52 (k_gc wd_314 (k_gc wd_315 (k_gc wd_347 (k_gc wd_348 k_gn)))))))))))))))))))))))
theorem wd_691 : kG (Cond.methodLink RX11 218 yX8_fewestSlips) := ⟨tk_3 _ (List.mem_of_getElem? (i := 87) (by decide +kernel)), Or.inl rfl⟩
theorem wd_692 : kG (Cond.static yX8_fewestSlips) := ⟨tk_3 _ (List.mem_of_getElem? (i := 88) (by decide +kernel)), Or.inl rfl⟩
theorem wd_693 : kG (Cond.code yX8_fewestSlips cX8_fewestSlips 8 (some .int)) := ⟨tk_3 _ (List.mem_of_getElem? (i := 89) (by decide +kernel)), Or.inl rfl⟩
theorem gp_wsX11_slips_r2 : GoodIn lw_tbl wsX11_slips_r2 := k_gc wd_349 (k_gc wd_350 (k_gc wd_478 (k_gc wd_342 (k_gc wd_343 (k_gc wd_344 (k_gc wd_51 (k_gc wd_691 (k_gc wd_692 (k_gc wd_388 (k_gc wd_693 (k_gc wd_671 (k_gc wd_409 (k_gc wd_410 (k_gc wd_411 (k_gc wd_452 (k_gc wd_453 (k_gc wd_454 (k_gc wd_455 (k_gc wd_456 (k_gc wd_457 (k_gc wd_458 (k_gc wd_440 (k_gc wd_441 k_gn)))))))))))))))))))))))
theorem gp_wsX11_slips_r3 : GoodIn lw_tbl wsX11_slips_r3 := k_gc wd_459 (k_gc wd_460 (k_gc wd_461 (k_gc wd_462 (k_gc wd_463 (k_gc wd_464 (k_gc wd_448 (k_gc wd_394 (k_gc wd_395 (k_gc wd_396 (k_gc wd_397 (k_gc wd_398 (k_gc wd_399 (k_gc wd_465 (k_gc wd_387 (k_gc wd_389 k_gn)))))))))))))))
theorem gp_wsX11_slips : GoodIn lw_tbl wsX11_slips := k_gc wd_690 (goodIn_app (goodIn_app (goodIn_app (gp_wsX11_slips_r1) (goodIn_app (gp_wsX11_slips_r2) (gp_wsX11_slips_r3))) (k_G_wsX110)) (k_G_wsX90))
theorem wd_694 : kG (Cond.methodLink RL 209 yX11_slips) := ⟨tk_3 _ (List.mem_of_getElem? (i := 83) (by decide +kernel)), Or.inl rfl⟩
theorem wd_695 : kG (Cond.instanceMethod yX11_slips) := ⟨tk_3 _ (List.mem_of_getElem? (i := 84) (by decide +kernel)), Or.inl rfl⟩
theorem wd_696 : kG (Cond.selects RX11 yX11_slips yX11_slips) := ⟨tk_3 _ (List.mem_of_getElem? (i := 85) (by decide +kernel)), Or.inl rfl⟩
theorem wd_697 : kG (Cond.code yX11_fits cX11_fits 1 (some .int)) := ⟨tk_3 _ (List.mem_of_getElem? (i := 162) (by decide +kernel)), Or.inl rfl⟩
theorem wd_698 : kG (Cond.methodLink RX11 247 yX1_of) := ⟨tk_3 _ (List.mem_of_getElem? (i := 163) (by decide +kernel)), Or.inl rfl⟩
theorem wd_699 : kG (Cond.static yX1_of) := ⟨tk_3 _ (List.mem_of_getElem? (i := 164) (by decide +kernel)), Or.inl rfl⟩
theorem wd_700 : kG (Cond.initialized RX1) := ⟨tk_1 _ (List.mem_of_getElem? (i := 17) (by decide +kernel)), Or.inl rfl⟩
theorem wd_701 : kG (Cond.code yX1_of cX1_of 3 (some .int)) := ⟨tk_3 _ (List.mem_of_getElem? (i := 165) (by decide +kernel)), Or.inl rfl⟩
theorem wd_702 : kG (Cond.methodLink RX1 15 yX1_areAllSo) := ⟨tk_3 _ (List.mem_of_getElem? (i := 166) (by decide +kernel)), Or.inl rfl⟩
theorem wd_703 : kG (Cond.static yX1_areAllSo) := ⟨tk_3 _ (List.mem_of_getElem? (i := 167) (by decide +kernel)), Or.inl rfl⟩
theorem wd_704 : kG (Cond.code yX1_areAllSo cX1_areAllSo 3 (some .boolean)) := ⟨tk_3 _ (List.mem_of_getElem? (i := 168) (by decide +kernel)), Or.inl rfl⟩
theorem wd_705 : kG (Cond.methodLink RX1 24 yX1_isSo) := ⟨tk_3 _ (List.mem_of_getElem? (i := 169) (by decide +kernel)), Or.inl rfl⟩
theorem wd_706 : kG (Cond.static yX1_isSo) := ⟨tk_3 _ (List.mem_of_getElem? (i := 170) (by decide +kernel)), Or.inl rfl⟩
theorem wd_707 : kG (Cond.code yX1_isSo cX1_isSo 6 (some .boolean)) := ⟨tk_3 _ (List.mem_of_getElem? (i := 171) (by decide +kernel)), Or.inl rfl⟩
theorem wd_708 : kG (Cond.methodLink RX1 40 yX9_steps) := ⟨tk_3 _ (List.mem_of_getElem? (i := 173) (by decide +kernel)), Or.inl rfl⟩
theorem gp_wsX11_fits_r1 : GoodIn lw_tbl wsX11_fits_r1 := k_gc wd_35 (k_gc wd_144 (k_gc wd_145 (k_gc wd_146 (k_gc wd_112 (k_gc wd_147 (k_gc wd_148 (k_gc wd_698 (k_gc wd_699 (k_gc wd_700 (k_gc wd_701 (k_gc wd_702 (k_gc wd_703 (k_gc wd_704 (k_gc wd_705 (k_gc wd_706 (k_gc wd_707 (k_gc wd_314 (k_gc wd_315 (k_gc wd_708 (k_gc wd_317 (k_gc wd_318 (k_gc wd_14 (k_gc wd_319 k_gn)))))))))))))))))))))))
theorem wd_709 : kG (Cond.methodLink RX1 46 yX1_rowWith) := ⟨tk_3 _ (List.mem_of_getElem? (i := 174) (by decide +kernel)), Or.inl rfl⟩
theorem wd_710 : kG (Cond.static yX1_rowWith) := ⟨tk_3 _ (List.mem_of_getElem? (i := 175) (by decide +kernel)), Or.inl rfl⟩
theorem wd_711 : kG (Cond.code yX1_rowWith cX1_rowWith 6 (some .int)) := ⟨tk_3 _ (List.mem_of_getElem? (i := 176) (by decide +kernel)), Or.inl rfl⟩
theorem wd_712 : kG (Cond.methodLink RX1 62 yX9_row) := ⟨tk_3 _ (List.mem_of_getElem? (i := 177) (by decide +kernel)), Or.inl rfl⟩
theorem wd_713 : kG (Cond.methodLink RX1 65 yX1_has) := ⟨tk_3 _ (List.mem_of_getElem? (i := 178) (by decide +kernel)), Or.inl rfl⟩
theorem wd_714 : kG (Cond.static yX1_has) := ⟨tk_3 _ (List.mem_of_getElem? (i := 179) (by decide +kernel)), Or.inl rfl⟩
theorem wd_715 : kG (Cond.code yX1_has cX1_has 2 (some .boolean)) := ⟨tk_3 _ (List.mem_of_getElem? (i := 180) (by decide +kernel)), Or.inl rfl⟩
theorem wd_716 : kG (Cond.methodLink RX1 75 yX8_bit) := ⟨tk_3 _ (List.mem_of_getElem? (i := 181) (by decide +kernel)), Or.inl rfl⟩
theorem wd_717 : kG (Cond.methodLink RX1 53 yX8_layersAlike) := ⟨tk_3 _ (List.mem_of_getElem? (i := 182) (by decide +kernel)), Or.inl rfl⟩
theorem gp_wsX11_fits_r2 : GoodIn lw_tbl wsX11_fits_r2 := k_gc wd_52 (k_gc wd_709 (k_gc wd_710 (k_gc wd_711 (k_gc wd_712 (k_gc wd_342 (k_gc wd_343 (k_gc wd_344 (k_gc wd_51 (k_gc wd_713 (k_gc wd_714 (k_gc wd_715 (k_gc wd_716 (k_gc wd_596 (k_gc wd_388 (k_gc wd_597 (k_gc wd_717 (k_gc wd_540 (k_gc wd_541 (k_gc wd_542 (k_gc wd_522 (k_gc wd_523 (k_gc wd_511 (k_gc wd_512 k_gn)))))))))))))))))))))))
theorem wd_718 : kG (Cond.methodLink RX11 253 yJ6_bitCount_0f7a4) := ⟨tk_3 _ (List.mem_of_getElem? (i := 183) (by decide +kernel)), Or.inl rfl⟩
theorem gp_wsX11_fits_r3 : GoodIn lw_tbl wsX11_fits_r3 := k_gc wd_513 (k_gc wd_524 (k_gc wd_525 (k_gc wd_526 (k_gc wd_465 (k_gc wd_387 (k_gc wd_389 (k_gc wd_543 (k_gc wd_532 (k_gc wd_533 (k_gc wd_544 (k_gc wd_481 (k_gc wd_482 (k_gc wd_445 (k_gc wd_446 (k_gc wd_447 (k_gc wd_448 (k_gc wd_394 (k_gc wd_395 (k_gc wd_396 (k_gc wd_397 (k_gc wd_398 (k_gc wd_399 (k_gc wd_718 k_gn)))))))))))))))))))))))
theorem gp_wsX11_fits_r4 : GoodIn lw_tbl wsX11_fits_r4 := k_gc wd_347 (k_gc wd_348 (k_gc wd_349 (k_gc wd_350 k_gn)))
theorem gp_wsX11_fits : GoodIn lw_tbl wsX11_fits := k_gc wd_697 (goodIn_app (goodIn_app (goodIn_app (goodIn_app (gp_wsX11_fits_r1) (goodIn_app (gp_wsX11_fits_r2) (goodIn_app (gp_wsX11_fits_r3) (gp_wsX11_fits_r4)))) (k_G_wsX110)) (k_G_wsX40)) (k_G_wsX90))
theorem wd_719 : kG (Cond.methodLink RL 212 yX11_fits) := ⟨tk_3 _ (List.mem_of_getElem? (i := 159) (by decide +kernel)), Or.inl rfl⟩
theorem wd_720 : kG (Cond.instanceMethod yX11_fits) := ⟨tk_3 _ (List.mem_of_getElem? (i := 160) (by decide +kernel)), Or.inl rfl⟩
theorem wd_721 : kG (Cond.selects RX11 yX11_fits yX11_fits) := ⟨tk_3 _ (List.mem_of_getElem? (i := 161) (by decide +kernel)), Or.inl rfl⟩
theorem wd_722 : kG (Cond.code yX11_judge cX11_judge 2 (some .int)) := ⟨tk_3 _ (List.mem_of_getElem? (i := 225) (by decide +kernel)), Or.inl rfl⟩
theorem wd_723 : kG (Cond.methodLink RX11 279 yX1_isSo) := ⟨tk_3 _ (List.mem_of_getElem? (i := 226) (by decide +kernel)), Or.inl rfl⟩
theorem gp_wsX11_judge_r1 : GoodIn lw_tbl wsX11_judge_r1 := k_gc wd_35 (k_gc wd_144 (k_gc wd_145 (k_gc wd_146 (k_gc wd_112 (k_gc wd_147 (k_gc wd_148 (k_gc wd_723 (k_gc wd_706 (k_gc wd_700 (k_gc wd_707 (k_gc wd_314 (k_gc wd_315 (k_gc wd_708 (k_gc wd_317 (k_gc wd_318 (k_gc wd_14 (k_gc wd_319 (k_gc wd_52 (k_gc wd_709 (k_gc wd_710 (k_gc wd_711 (k_gc wd_712 (k_gc wd_342 k_gn)))))))))))))))))))))))
theorem gp_wsX11_judge_r2 : GoodIn lw_tbl wsX11_judge_r2 := k_gc wd_343 (k_gc wd_344 (k_gc wd_51 (k_gc wd_713 (k_gc wd_714 (k_gc wd_715 (k_gc wd_716 (k_gc wd_596 (k_gc wd_388 (k_gc wd_597 (k_gc wd_717 (k_gc wd_540 (k_gc wd_541 (k_gc wd_542 (k_gc wd_522 (k_gc wd_523 (k_gc wd_511 (k_gc wd_512 (k_gc wd_513 (k_gc wd_524 (k_gc wd_525 (k_gc wd_526 (k_gc wd_465 (k_gc wd_387 k_gn)))))))))))))))))))))))
theorem gp_wsX11_judge_r3 : GoodIn lw_tbl wsX11_judge_r3 := k_gc wd_389 (k_gc wd_543 (k_gc wd_532 (k_gc wd_533 (k_gc wd_544 (k_gc wd_481 (k_gc wd_482 (k_gc wd_445 (k_gc wd_446 (k_gc wd_447 (k_gc wd_448 (k_gc wd_394 (k_gc wd_395 (k_gc wd_396 (k_gc wd_397 (k_gc wd_398 (k_gc wd_399 (k_gc wd_347 (k_gc wd_348 (k_gc wd_349 (k_gc wd_350 k_gn))))))))))))))))))))
theorem gp_wsX11_judge : GoodIn lw_tbl wsX11_judge := k_gc wd_722 (goodIn_app (goodIn_app (goodIn_app (goodIn_app (gp_wsX11_judge_r1) (goodIn_app (gp_wsX11_judge_r2) (gp_wsX11_judge_r3))) (k_G_wsX110)) (k_G_wsX40)) (k_G_wsX90))
theorem wd_724 : kG (Cond.methodLink RL 215 yX11_judge) := ⟨tk_3 _ (List.mem_of_getElem? (i := 222) (by decide +kernel)), Or.inl rfl⟩
theorem wd_725 : kG (Cond.instanceMethod yX11_judge) := ⟨tk_3 _ (List.mem_of_getElem? (i := 223) (by decide +kernel)), Or.inl rfl⟩
theorem wd_726 : kG (Cond.selects RX11 yX11_judge yX11_judge) := ⟨tk_3 _ (List.mem_of_getElem? (i := 224) (by decide +kernel)), Or.inl rfl⟩
theorem wd_727 : kG (Cond.code yX11_askLeaves cX11_askLeaves 3 (some .int)) := ⟨tk_3 _ (List.mem_of_getElem? (i := 220) (by decide +kernel)), Or.inl rfl⟩
theorem gp_wsX11_askLeaves_r1 : GoodIn lw_tbl wsX11_askLeaves_r1 := k_gc wd_35 (k_gc wd_144 (k_gc wd_145 (k_gc wd_146 (k_gc wd_112 (k_gc wd_147 (k_gc wd_148 (k_gc wd_698 (k_gc wd_699 (k_gc wd_700 (k_gc wd_701 (k_gc wd_702 (k_gc wd_703 (k_gc wd_704 (k_gc wd_705 (k_gc wd_706 (k_gc wd_707 (k_gc wd_314 (k_gc wd_315 (k_gc wd_708 (k_gc wd_317 (k_gc wd_318 (k_gc wd_14 (k_gc wd_319 k_gn)))))))))))))))))))))))
theorem gp_wsX11_askLeaves_r2 : GoodIn lw_tbl wsX11_askLeaves_r2 := k_gc wd_52 (k_gc wd_709 (k_gc wd_710 (k_gc wd_711 (k_gc wd_712 (k_gc wd_342 (k_gc wd_343 (k_gc wd_344 (k_gc wd_51 (k_gc wd_713 (k_gc wd_714 (k_gc wd_715 (k_gc wd_716 (k_gc wd_596 (k_gc wd_388 (k_gc wd_597 (k_gc wd_717 (k_gc wd_540 (k_gc wd_541 (k_gc wd_542 (k_gc wd_522 (k_gc wd_523 (k_gc wd_511 (k_gc wd_512 k_gn)))))))))))))))))))))))
theorem wd_728 : kG (Cond.methodLink RX11 270 yX1_bestQuestion) := ⟨tk_3 _ (List.mem_of_getElem? (i := 209) (by decide +kernel)), Or.inl rfl⟩
theorem gp_wsX11_askLeaves_r3 : GoodIn lw_tbl wsX11_askLeaves_r3 := k_gc wd_513 (k_gc wd_524 (k_gc wd_525 (k_gc wd_526 (k_gc wd_465 (k_gc wd_387 (k_gc wd_389 (k_gc wd_543 (k_gc wd_532 (k_gc wd_533 (k_gc wd_544 (k_gc wd_481 (k_gc wd_482 (k_gc wd_445 (k_gc wd_446 (k_gc wd_447 (k_gc wd_448 (k_gc wd_394 (k_gc wd_395 (k_gc wd_396 (k_gc wd_397 (k_gc wd_398 (k_gc wd_399 (k_gc wd_728 k_gn)))))))))))))))))))))))
theorem wd_729 : kG (Cond.static yX1_bestQuestion) := ⟨tk_3 _ (List.mem_of_getElem? (i := 210) (by decide +kernel)), Or.inl rfl⟩
theorem wd_730 : kG (Cond.code yX1_bestQuestion cX1_bestQuestion 4 (some .int)) := ⟨tk_3 _ (List.mem_of_getElem? (i := 211) (by decide +kernel)), Or.inl rfl⟩
theorem wd_731 : kG (Cond.methodLink RX1 89 yX1_mostLeft) := ⟨tk_3 _ (List.mem_of_getElem? (i := 212) (by decide +kernel)), Or.inl rfl⟩
theorem wd_732 : kG (Cond.static yX1_mostLeft) := ⟨tk_3 _ (List.mem_of_getElem? (i := 213) (by decide +kernel)), Or.inl rfl⟩
theorem wd_733 : kG (Cond.code yX1_mostLeft cX1_mostLeft 4 (some .int)) := ⟨tk_3 _ (List.mem_of_getElem? (i := 214) (by decide +kernel)), Or.inl rfl⟩
theorem wd_734 : kG (Cond.methodLink RX1 84 Lib.Math.max.name) := ⟨tk_3 _ (List.mem_of_getElem? (i := 216) (by decide +kernel)), Or.inl rfl⟩
theorem wd_735 : kG (Cond.methodLink RX1 79 yJ6_bitCount_0f7a4) := ⟨tk_3 _ (List.mem_of_getElem? (i := 215) (by decide +kernel)), Or.inl rfl⟩
theorem wd_736 : kG (Cond.methodLink RX11 273 yX1_mostLeft) := ⟨tk_3 _ (List.mem_of_getElem? (i := 221) (by decide +kernel)), Or.inl rfl⟩
theorem gp_wsX11_askLeaves_r4 : GoodIn lw_tbl wsX11_askLeaves_r4 := k_gc wd_729 (k_gc wd_730 (k_gc wd_731 (k_gc wd_732 (k_gc wd_733 (k_gc wd_734 (k_gc wd_493 (k_gc wd_410 (k_gc wd_494 (k_gc wd_735 (k_gc wd_736 (k_gc wd_347 (k_gc wd_348 (k_gc wd_349 (k_gc wd_350 k_gn))))))))))))))
theorem gp_wsX11_askLeaves : GoodIn lw_tbl wsX11_askLeaves := k_gc wd_727 (goodIn_app (goodIn_app (goodIn_app (goodIn_app (gp_wsX11_askLeaves_r1) (goodIn_app (gp_wsX11_askLeaves_r2) (goodIn_app (gp_wsX11_askLeaves_r3) (gp_wsX11_askLeaves_r4)))) (k_G_wsX110)) (k_G_wsX40)) (k_G_wsX90))
theorem wd_737 : kG (Cond.methodLink RL 218 yX11_askLeaves) := ⟨tk_3 _ (List.mem_of_getElem? (i := 217) (by decide +kernel)), Or.inl rfl⟩
theorem wd_738 : kG (Cond.instanceMethod yX11_askLeaves) := ⟨tk_3 _ (List.mem_of_getElem? (i := 218) (by decide +kernel)), Or.inl rfl⟩
theorem wd_739 : kG (Cond.selects RX11 yX11_askLeaves yX11_askLeaves) := ⟨tk_3 _ (List.mem_of_getElem? (i := 219) (by decide +kernel)), Or.inl rfl⟩
theorem wd_740 : kG (Cond.code yX11_ask cX11_ask 1 (some .int)) := ⟨tk_3 _ (List.mem_of_getElem? (i := 208) (by decide +kernel)), Or.inl rfl⟩
theorem gp_wsX11_ask_r1 : GoodIn lw_tbl wsX11_ask_r1 := k_gc wd_35 (k_gc wd_144 (k_gc wd_145 (k_gc wd_146 (k_gc wd_112 (k_gc wd_147 (k_gc wd_148 (k_gc wd_698 (k_gc wd_699 (k_gc wd_700 (k_gc wd_701 (k_gc wd_702 (k_gc wd_703 (k_gc wd_704 (k_gc wd_705 (k_gc wd_706 (k_gc wd_707 (k_gc wd_314 (k_gc wd_315 (k_gc wd_708 (k_gc wd_317 (k_gc wd_318 (k_gc wd_14 (k_gc wd_319 k_gn)))))))))))))))))))))))
theorem gp_wsX11_ask_r2 : GoodIn lw_tbl wsX11_ask_r2 := k_gc wd_52 (k_gc wd_709 (k_gc wd_710 (k_gc wd_711 (k_gc wd_712 (k_gc wd_342 (k_gc wd_343 (k_gc wd_344 (k_gc wd_51 (k_gc wd_713 (k_gc wd_714 (k_gc wd_715 (k_gc wd_716 (k_gc wd_596 (k_gc wd_388 (k_gc wd_597 (k_gc wd_717 (k_gc wd_540 (k_gc wd_541 (k_gc wd_542 (k_gc wd_522 (k_gc wd_523 (k_gc wd_511 (k_gc wd_512 k_gn)))))))))))))))))))))))
theorem gp_wsX11_ask_r3 : GoodIn lw_tbl wsX11_ask_r3 := k_gc wd_513 (k_gc wd_524 (k_gc wd_525 (k_gc wd_526 (k_gc wd_465 (k_gc wd_387 (k_gc wd_389 (k_gc wd_543 (k_gc wd_532 (k_gc wd_533 (k_gc wd_544 (k_gc wd_481 (k_gc wd_482 (k_gc wd_445 (k_gc wd_446 (k_gc wd_447 (k_gc wd_448 (k_gc wd_394 (k_gc wd_395 (k_gc wd_396 (k_gc wd_397 (k_gc wd_398 (k_gc wd_399 (k_gc wd_728 k_gn)))))))))))))))))))))))
theorem gp_wsX11_ask_r4 : GoodIn lw_tbl wsX11_ask_r4 := k_gc wd_729 (k_gc wd_730 (k_gc wd_731 (k_gc wd_732 (k_gc wd_733 (k_gc wd_734 (k_gc wd_493 (k_gc wd_410 (k_gc wd_494 (k_gc wd_735 (k_gc wd_347 (k_gc wd_348 (k_gc wd_349 (k_gc wd_350 k_gn)))))))))))))
theorem gp_wsX11_ask : GoodIn lw_tbl wsX11_ask := k_gc wd_740 (goodIn_app (goodIn_app (goodIn_app (goodIn_app (gp_wsX11_ask_r1) (goodIn_app (gp_wsX11_ask_r2) (goodIn_app (gp_wsX11_ask_r3) (gp_wsX11_ask_r4)))) (k_G_wsX110)) (k_G_wsX40)) (k_G_wsX90))
theorem wd_741 : kG (Cond.methodLink RL 221 yX11_ask) := ⟨tk_3 _ (List.mem_of_getElem? (i := 205) (by decide +kernel)), Or.inl rfl⟩
theorem wd_742 : kG (Cond.instanceMethod yX11_ask) := ⟨tk_3 _ (List.mem_of_getElem? (i := 206) (by decide +kernel)), Or.inl rfl⟩
theorem wd_743 : kG (Cond.selects RX11 yX11_ask yX11_ask) := ⟨tk_3 _ (List.mem_of_getElem? (i := 207) (by decide +kernel)), Or.inl rfl⟩
theorem wd_744 : kG (Cond.code yX11_surely cX11_surely 1 (some .int)) := ⟨tk_3 _ (List.mem_of_getElem? (i := 201) (by decide +kernel)), Or.inl rfl⟩
theorem gp_wsX11_surely_r1 : GoodIn lw_tbl wsX11_surely_r1 := k_gc wd_35 (k_gc wd_144 (k_gc wd_145 (k_gc wd_146 (k_gc wd_112 (k_gc wd_147 (k_gc wd_148 (k_gc wd_698 (k_gc wd_699 (k_gc wd_700 (k_gc wd_701 (k_gc wd_702 (k_gc wd_703 (k_gc wd_704 (k_gc wd_705 (k_gc wd_706 (k_gc wd_707 (k_gc wd_314 (k_gc wd_315 (k_gc wd_708 (k_gc wd_317 (k_gc wd_318 (k_gc wd_14 (k_gc wd_319 k_gn)))))))))))))))))))))))
theorem gp_wsX11_surely_r2 : GoodIn lw_tbl wsX11_surely_r2 := k_gc wd_52 (k_gc wd_709 (k_gc wd_710 (k_gc wd_711 (k_gc wd_712 (k_gc wd_342 (k_gc wd_343 (k_gc wd_344 (k_gc wd_51 (k_gc wd_713 (k_gc wd_714 (k_gc wd_715 (k_gc wd_716 (k_gc wd_596 (k_gc wd_388 (k_gc wd_597 (k_gc wd_717 (k_gc wd_540 (k_gc wd_541 (k_gc wd_542 (k_gc wd_522 (k_gc wd_523 (k_gc wd_511 (k_gc wd_512 k_gn)))))))))))))))))))))))
theorem wd_745 : kG (Cond.methodLink RX11 264 yX1_inAll) := ⟨tk_3 _ (List.mem_of_getElem? (i := 202) (by decide +kernel)), Or.inl rfl⟩
theorem gp_wsX11_surely_r3 : GoodIn lw_tbl wsX11_surely_r3 := k_gc wd_513 (k_gc wd_524 (k_gc wd_525 (k_gc wd_526 (k_gc wd_465 (k_gc wd_387 (k_gc wd_389 (k_gc wd_543 (k_gc wd_532 (k_gc wd_533 (k_gc wd_544 (k_gc wd_481 (k_gc wd_482 (k_gc wd_445 (k_gc wd_446 (k_gc wd_447 (k_gc wd_448 (k_gc wd_394 (k_gc wd_395 (k_gc wd_396 (k_gc wd_397 (k_gc wd_398 (k_gc wd_399 (k_gc wd_745 k_gn)))))))))))))))))))))))
theorem wd_746 : kG (Cond.static yX1_inAll) := ⟨tk_3 _ (List.mem_of_getElem? (i := 203) (by decide +kernel)), Or.inl rfl⟩
theorem wd_747 : kG (Cond.code yX1_inAll cX1_inAll 3 (some .int)) := ⟨tk_3 _ (List.mem_of_getElem? (i := 204) (by decide +kernel)), Or.inl rfl⟩
theorem gp_wsX11_surely_r4 : GoodIn lw_tbl wsX11_surely_r4 := k_gc wd_746 (k_gc wd_747 (k_gc wd_347 (k_gc wd_348 (k_gc wd_349 (k_gc wd_350 k_gn)))))
theorem gp_wsX11_surely : GoodIn lw_tbl wsX11_surely := k_gc wd_744 (goodIn_app (goodIn_app (goodIn_app (goodIn_app (gp_wsX11_surely_r1) (goodIn_app (gp_wsX11_surely_r2) (goodIn_app (gp_wsX11_surely_r3) (gp_wsX11_surely_r4)))) (k_G_wsX110)) (k_G_wsX40)) (k_G_wsX90))
theorem wd_748 : kG (Cond.methodLink RL 224 yX11_surely) := ⟨tk_3 _ (List.mem_of_getElem? (i := 198) (by decide +kernel)), Or.inl rfl⟩
theorem wd_749 : kG (Cond.instanceMethod yX11_surely) := ⟨tk_3 _ (List.mem_of_getElem? (i := 199) (by decide +kernel)), Or.inl rfl⟩
theorem wd_750 : kG (Cond.selects RX11 yX11_surely yX11_surely) := ⟨tk_3 _ (List.mem_of_getElem? (i := 200) (by decide +kernel)), Or.inl rfl⟩
theorem wd_751 : kG (Cond.code yX11_could cX11_could 1 (some .int)) := ⟨tk_3 _ (List.mem_of_getElem? (i := 194) (by decide +kernel)), Or.inl rfl⟩
theorem gp_wsX11_could_r1 : GoodIn lw_tbl wsX11_could_r1 := k_gc wd_35 (k_gc wd_144 (k_gc wd_145 (k_gc wd_146 (k_gc wd_112 (k_gc wd_147 (k_gc wd_148 (k_gc wd_698 (k_gc wd_699 (k_gc wd_700 (k_gc wd_701 (k_gc wd_702 (k_gc wd_703 (k_gc wd_704 (k_gc wd_705 (k_gc wd_706 (k_gc wd_707 (k_gc wd_314 (k_gc wd_315 (k_gc wd_708 (k_gc wd_317 (k_gc wd_318 (k_gc wd_14 (k_gc wd_319 k_gn)))))))))))))))))))))))
theorem gp_wsX11_could_r2 : GoodIn lw_tbl wsX11_could_r2 := k_gc wd_52 (k_gc wd_709 (k_gc wd_710 (k_gc wd_711 (k_gc wd_712 (k_gc wd_342 (k_gc wd_343 (k_gc wd_344 (k_gc wd_51 (k_gc wd_713 (k_gc wd_714 (k_gc wd_715 (k_gc wd_716 (k_gc wd_596 (k_gc wd_388 (k_gc wd_597 (k_gc wd_717 (k_gc wd_540 (k_gc wd_541 (k_gc wd_542 (k_gc wd_522 (k_gc wd_523 (k_gc wd_511 (k_gc wd_512 k_gn)))))))))))))))))))))))
theorem wd_752 : kG (Cond.methodLink RX11 261 yX1_inSome) := ⟨tk_3 _ (List.mem_of_getElem? (i := 195) (by decide +kernel)), Or.inl rfl⟩
theorem gp_wsX11_could_r3 : GoodIn lw_tbl wsX11_could_r3 := k_gc wd_513 (k_gc wd_524 (k_gc wd_525 (k_gc wd_526 (k_gc wd_465 (k_gc wd_387 (k_gc wd_389 (k_gc wd_543 (k_gc wd_532 (k_gc wd_533 (k_gc wd_544 (k_gc wd_481 (k_gc wd_482 (k_gc wd_445 (k_gc wd_446 (k_gc wd_447 (k_gc wd_448 (k_gc wd_394 (k_gc wd_395 (k_gc wd_396 (k_gc wd_397 (k_gc wd_398 (k_gc wd_399 (k_gc wd_752 k_gn)))))))))))))))))))))))
theorem wd_753 : kG (Cond.static yX1_inSome) := ⟨tk_3 _ (List.mem_of_getElem? (i := 196) (by decide +kernel)), Or.inl rfl⟩
theorem wd_754 : kG (Cond.code yX1_inSome cX1_inSome 3 (some .int)) := ⟨tk_3 _ (List.mem_of_getElem? (i := 197) (by decide +kernel)), Or.inl rfl⟩
theorem gp_wsX11_could_r4 : GoodIn lw_tbl wsX11_could_r4 := k_gc wd_753 (k_gc wd_754 (k_gc wd_347 (k_gc wd_348 (k_gc wd_349 (k_gc wd_350 k_gn)))))
theorem gp_wsX11_could : GoodIn lw_tbl wsX11_could := k_gc wd_751 (goodIn_app (goodIn_app (goodIn_app (goodIn_app (gp_wsX11_could_r1) (goodIn_app (gp_wsX11_could_r2) (goodIn_app (gp_wsX11_could_r3) (gp_wsX11_could_r4)))) (k_G_wsX110)) (k_G_wsX40)) (k_G_wsX90))
theorem wd_755 : kG (Cond.methodLink RL 227 yX11_could) := ⟨tk_3 _ (List.mem_of_getElem? (i := 191) (by decide +kernel)), Or.inl rfl⟩
theorem wd_756 : kG (Cond.instanceMethod yX11_could) := ⟨tk_3 _ (List.mem_of_getElem? (i := 192) (by decide +kernel)), Or.inl rfl⟩
theorem wd_757 : kG (Cond.selects RX11 yX11_could yX11_could) := ⟨tk_3 _ (List.mem_of_getElem? (i := 193) (by decide +kernel)), Or.inl rfl⟩
theorem wd_758 : kG (Cond.code yX11_fitAt cX11_fitAt 3 (some .int)) := ⟨tk_3 _ (List.mem_of_getElem? (i := 187) (by decide +kernel)), Or.inl rfl⟩
theorem gp_wsX11_fitAt_r1 : GoodIn lw_tbl wsX11_fitAt_r1 := k_gc wd_35 (k_gc wd_144 (k_gc wd_145 (k_gc wd_146 (k_gc wd_112 (k_gc wd_147 (k_gc wd_148 (k_gc wd_698 (k_gc wd_699 (k_gc wd_700 (k_gc wd_701 (k_gc wd_702 (k_gc wd_703 (k_gc wd_704 (k_gc wd_705 (k_gc wd_706 (k_gc wd_707 (k_gc wd_314 (k_gc wd_315 (k_gc wd_708 (k_gc wd_317 (k_gc wd_318 (k_gc wd_14 (k_gc wd_319 k_gn)))))))))))))))))))))))
theorem gp_wsX11_fitAt_r2 : GoodIn lw_tbl wsX11_fitAt_r2 := k_gc wd_52 (k_gc wd_709 (k_gc wd_710 (k_gc wd_711 (k_gc wd_712 (k_gc wd_342 (k_gc wd_343 (k_gc wd_344 (k_gc wd_51 (k_gc wd_713 (k_gc wd_714 (k_gc wd_715 (k_gc wd_716 (k_gc wd_596 (k_gc wd_388 (k_gc wd_597 (k_gc wd_717 (k_gc wd_540 (k_gc wd_541 (k_gc wd_542 (k_gc wd_522 (k_gc wd_523 (k_gc wd_511 (k_gc wd_512 k_gn)))))))))))))))))))))))
theorem wd_759 : kG (Cond.methodLink RX11 258 yX1_setAt) := ⟨tk_3 _ (List.mem_of_getElem? (i := 188) (by decide +kernel)), Or.inl rfl⟩
theorem gp_wsX11_fitAt_r3 : GoodIn lw_tbl wsX11_fitAt_r3 := k_gc wd_513 (k_gc wd_524 (k_gc wd_525 (k_gc wd_526 (k_gc wd_465 (k_gc wd_387 (k_gc wd_389 (k_gc wd_543 (k_gc wd_532 (k_gc wd_533 (k_gc wd_544 (k_gc wd_481 (k_gc wd_482 (k_gc wd_445 (k_gc wd_446 (k_gc wd_447 (k_gc wd_448 (k_gc wd_394 (k_gc wd_395 (k_gc wd_396 (k_gc wd_397 (k_gc wd_398 (k_gc wd_399 (k_gc wd_759 k_gn)))))))))))))))))))))))
theorem wd_760 : kG (Cond.static yX1_setAt) := ⟨tk_3 _ (List.mem_of_getElem? (i := 189) (by decide +kernel)), Or.inl rfl⟩
theorem wd_761 : kG (Cond.code yX1_setAt cX1_setAt 4 (some .int)) := ⟨tk_3 _ (List.mem_of_getElem? (i := 190) (by decide +kernel)), Or.inl rfl⟩
theorem gp_wsX11_fitAt_r4 : GoodIn lw_tbl wsX11_fitAt_r4 := k_gc wd_760 (k_gc wd_761 (k_gc wd_347 (k_gc wd_348 (k_gc wd_349 (k_gc wd_350 k_gn)))))
theorem gp_wsX11_fitAt : GoodIn lw_tbl wsX11_fitAt := k_gc wd_758 (goodIn_app (goodIn_app (goodIn_app (goodIn_app (gp_wsX11_fitAt_r1) (goodIn_app (gp_wsX11_fitAt_r2) (goodIn_app (gp_wsX11_fitAt_r3) (gp_wsX11_fitAt_r4)))) (k_G_wsX110)) (k_G_wsX40)) (k_G_wsX90))
theorem wd_762 : kG (Cond.methodLink RL 230 yX11_fitAt) := ⟨tk_3 _ (List.mem_of_getElem? (i := 184) (by decide +kernel)), Or.inl rfl⟩
theorem wd_763 : kG (Cond.instanceMethod yX11_fitAt) := ⟨tk_3 _ (List.mem_of_getElem? (i := 185) (by decide +kernel)), Or.inl rfl⟩
theorem wd_764 : kG (Cond.selects RX11 yX11_fitAt yX11_fitAt) := ⟨tk_3 _ (List.mem_of_getElem? (i := 186) (by decide +kernel)), Or.inl rfl⟩
theorem wd_765 : kG (Cond.code yX11_odds cX11_odds 6 (some .long)) := ⟨tk_3 _ (List.mem_of_getElem? (i := 230) (by decide +kernel)), Or.inl rfl⟩
theorem wd_766 : kG (Cond.constantLong RX11 292 (100)) := ⟨tk_4 _ (List.mem_of_getElem? (i := 0) (by decide +kernel)), Or.inl rfl⟩
theorem wd_767 : kG (Cond.methodLink RX11 286 yX2_upToChanges) := ⟨tk_3 _ (List.mem_of_getElem? (i := 231) (by decide +kernel)), Or.inl rfl⟩
theorem wd_768 : kG (Cond.static yX2_upToChanges) := ⟨tk_3 _ (List.mem_of_getElem? (i := 232) (by decide +kernel)), Or.inl rfl⟩
theorem wd_769 : kG (Cond.initialized RX2) := ⟨tk_1 _ (List.mem_of_getElem? (i := 18) (by decide +kernel)), Or.inl rfl⟩
theorem wd_770 : kG (Cond.code yX2_upToChanges cX2_upToChanges 8 (some .long)) := ⟨tk_3 _ (List.mem_of_getElem? (i := 233) (by decide +kernel)), Or.inl rfl⟩
theorem wd_771 : kG (Cond.methodLink RX2 13 yX2_withChanges) := ⟨tk_3 _ (List.mem_of_getElem? (i := 234) (by decide +kernel)), Or.inl rfl⟩
theorem wd_772 : kG (Cond.static yX2_withChanges) := ⟨tk_3 _ (List.mem_of_getElem? (i := 235) (by decide +kernel)), Or.inl rfl⟩
theorem wd_773 : kG (Cond.code yX2_withChanges cX2_withChanges 3 (some .long)) := ⟨tk_3 _ (List.mem_of_getElem? (i := 236) (by decide +kernel)), Or.inl rfl⟩
theorem wd_774 : kG (Cond.methodLink RX2 7 yX2_power) := ⟨tk_3 _ (List.mem_of_getElem? (i := 237) (by decide +kernel)), Or.inl rfl⟩
theorem wd_775 : kG (Cond.static yX2_power) := ⟨tk_3 _ (List.mem_of_getElem? (i := 238) (by decide +kernel)), Or.inl rfl⟩
theorem wd_776 : kG (Cond.code yX2_power cX2_power 6 (some .long)) := ⟨tk_3 _ (List.mem_of_getElem? (i := 239) (by decide +kernel)), Or.inl rfl⟩
theorem wd_777 : kG (Cond.methodLink RX11 294 yX2_power) := ⟨tk_4 _ (List.mem_of_getElem? (i := 1) (by decide +kernel)), Or.inl rfl⟩
theorem wd_778 : kG (Cond.methodLink RX11 164 yX11_grantedPart) := ⟨tk_4 _ (List.mem_of_getElem? (i := 2) (by decide +kernel)), Or.inl rfl⟩
theorem wd_779 : kG (Cond.instanceMethod yX11_grantedPart) := ⟨tk_4 _ (List.mem_of_getElem? (i := 4) (by decide +kernel)), Or.inl rfl⟩
theorem wd_780 : kG (Cond.selects RX11 yX11_grantedPart yX11_grantedPart) := ⟨List.mem_of_getElem? (i := 9) (by decide +kernel), Or.inl rfl⟩
theorem wd_781 : kG (Cond.code yX11_grantedPart cX11_grantedPart 8 (some .long)) := ⟨tk_4 _ (List.mem_of_getElem? (i := 5) (by decide +kernel)), Or.inl rfl⟩
theorem wd_782 : kG (Cond.methodLink RX11 360 Lib.MathLoose.abs_long.x) := ⟨tk_4 _ (List.mem_of_getElem? (i := 6) (by decide +kernel)), Or.inl rfl⟩
theorem gp_wsX11_odds_r1 : GoodIn lw_tbl wsX11_odds_r1 := k_gc wd_35 (k_gc wd_766 (k_gc wd_144 (k_gc wd_145 (k_gc wd_146 (k_gc wd_112 (k_gc wd_147 (k_gc wd_148 (k_gc wd_767 (k_gc wd_768 (k_gc wd_769 (k_gc wd_770 (k_gc wd_771 (k_gc wd_772 (k_gc wd_773 (k_gc wd_774 (k_gc wd_775 (k_gc wd_776 (k_gc wd_777 (k_gc wd_778 (k_gc wd_779 (k_gc wd_780 (k_gc wd_781 (k_gc wd_782 k_gn)))))))))))))))))))))))
theorem wd_783 : kG (Cond.static Lib.MathLoose.abs_long.x) := ⟨tk_4 _ (List.mem_of_getElem? (i := 7) (by decide +kernel)), Or.inl rfl⟩
theorem wd_784 : kG (Cond.code Lib.MathLoose.abs_long.x Lib.MathLoose.abs_long.code 2 (some .long)) := ⟨tk_4 _ (List.mem_of_getElem? (i := 8) (by decide +kernel)), Or.inl rfl⟩
theorem wd_785 : kG (Cond.methodLink RX11 366 yX11_commonMeasure) := ⟨tk_4 _ (List.mem_of_getElem? (i := 9) (by decide +kernel)), Or.inl rfl⟩
theorem wd_786 : kG (Cond.static yX11_commonMeasure) := ⟨tk_4 _ (List.mem_of_getElem? (i := 10) (by decide +kernel)), Or.inl rfl⟩
theorem wd_787 : kG (Cond.code yX11_commonMeasure cX11_commonMeasure 11 (some .long)) := ⟨tk_4 _ (List.mem_of_getElem? (i := 11) (by decide +kernel)), Or.inl rfl⟩
theorem gp_wsX11_odds_r2 : GoodIn lw_tbl wsX11_odds_r2 := k_gc wd_783 (k_gc wd_410 (k_gc wd_784 (k_gc wd_785 (k_gc wd_786 (k_gc wd_787 k_gn)))))
theorem gp_wsX11_odds : GoodIn lw_tbl wsX11_odds := k_gc wd_765 (goodIn_app (goodIn_app (goodIn_app (gp_wsX11_odds_r1) (gp_wsX11_odds_r2)) (k_G_wsX110)) (k_G_wsX40))
theorem wd_788 : kG (Cond.methodLink RL 233 yX11_odds) := ⟨tk_3 _ (List.mem_of_getElem? (i := 227) (by decide +kernel)), Or.inl rfl⟩
theorem wd_789 : kG (Cond.instanceMethod yX11_odds) := ⟨tk_3 _ (List.mem_of_getElem? (i := 228) (by decide +kernel)), Or.inl rfl⟩
theorem wd_790 : kG (Cond.selects RX11 yX11_odds yX11_odds) := ⟨tk_3 _ (List.mem_of_getElem? (i := 229) (by decide +kernel)), Or.inl rfl⟩
theorem wd_791 : kG (Cond.code yX11_meanSum cX11_meanSum 5 (some .long)) := ⟨tk_4 _ (List.mem_of_getElem? (i := 15) (by decide +kernel)), Or.inl rfl⟩
theorem wd_792 : kG (Cond.methodLink RX11 304 yX2_meanTotal) := ⟨tk_4 _ (List.mem_of_getElem? (i := 16) (by decide +kernel)), Or.inl rfl⟩
theorem wd_793 : kG (Cond.static yX2_meanTotal) := ⟨tk_4 _ (List.mem_of_getElem? (i := 17) (by decide +kernel)), Or.inl rfl⟩
theorem wd_794 : kG (Cond.code yX2_meanTotal cX2_meanTotal 5 (some .long)) := ⟨tk_4 _ (List.mem_of_getElem? (i := 18) (by decide +kernel)), Or.inl rfl⟩
theorem wd_795 : kG (Cond.constantLong RX2 17 (100)) := ⟨tk_4 _ (List.mem_of_getElem? (i := 19) (by decide +kernel)), Or.inl rfl⟩
theorem gp_wsX11_meanSum_r1 : GoodIn lw_tbl wsX11_meanSum_r1 := k_gc wd_35 (k_gc wd_430 (k_gc wd_766 (k_gc wd_144 (k_gc wd_145 (k_gc wd_146 (k_gc wd_112 (k_gc wd_147 (k_gc wd_148 (k_gc wd_792 (k_gc wd_793 (k_gc wd_769 (k_gc wd_794 (k_gc wd_795 (k_gc wd_774 (k_gc wd_775 (k_gc wd_776 (k_gc wd_777 (k_gc wd_778 (k_gc wd_779 (k_gc wd_780 (k_gc wd_781 (k_gc wd_782 (k_gc wd_783 k_gn)))))))))))))))))))))))
theorem gp_wsX11_meanSum_r2 : GoodIn lw_tbl wsX11_meanSum_r2 := k_gc wd_410 (k_gc wd_784 (k_gc wd_785 (k_gc wd_786 (k_gc wd_787 k_gn))))
theorem gp_wsX11_meanSum : GoodIn lw_tbl wsX11_meanSum := k_gc wd_791 (goodIn_app (goodIn_app (goodIn_app (gp_wsX11_meanSum_r1) (gp_wsX11_meanSum_r2)) (k_G_wsX110)) (k_G_wsX40))
theorem wd_796 : kG (Cond.methodLink RL 237 yX11_meanSum) := ⟨tk_4 _ (List.mem_of_getElem? (i := 12) (by decide +kernel)), Or.inl rfl⟩
theorem wd_797 : kG (Cond.instanceMethod yX11_meanSum) := ⟨tk_4 _ (List.mem_of_getElem? (i := 13) (by decide +kernel)), Or.inl rfl⟩
theorem wd_798 : kG (Cond.selects RX11 yX11_meanSum yX11_meanSum) := ⟨tk_4 _ (List.mem_of_getElem? (i := 14) (by decide +kernel)), Or.inl rfl⟩
theorem wd_799 : kG (Cond.code yX11_grown cX11_grown 3 (some .int)) := ⟨tk_4 _ (List.mem_of_getElem? (i := 23) (by decide +kernel)), Or.inl rfl⟩
theorem wd_800 : kG (Cond.methodLink RX11 308 yX11_isNoSeed) := ⟨tk_4 _ (List.mem_of_getElem? (i := 24) (by decide +kernel)), Or.inl rfl⟩
theorem wd_801 : kG (Cond.static yX11_isNoSeed) := ⟨tk_4 _ (List.mem_of_getElem? (i := 25) (by decide +kernel)), Or.inl rfl⟩
theorem wd_802 : kG (Cond.code yX11_isNoSeed cX11_isNoSeed 1 (some .boolean)) := ⟨tk_4 _ (List.mem_of_getElem? (i := 26) (by decide +kernel)), Or.inl rfl⟩
theorem wd_803 : kG (Cond.constant RX11 317 (65536)) := ⟨tk_4 _ (List.mem_of_getElem? (i := 27) (by decide +kernel)), Or.inl rfl⟩
theorem wd_804 : kG (Cond.methodLink RX11 311 yX2_rowBy) := ⟨tk_4 _ (List.mem_of_getElem? (i := 28) (by decide +kernel)), Or.inl rfl⟩
theorem wd_805 : kG (Cond.static yX2_rowBy) := ⟨tk_4 _ (List.mem_of_getElem? (i := 29) (by decide +kernel)), Or.inl rfl⟩
theorem wd_806 : kG (Cond.code yX2_rowBy cX2_rowBy 7 (some .int)) := ⟨tk_4 _ (List.mem_of_getElem? (i := 30) (by decide +kernel)), Or.inl rfl⟩
theorem wd_807 : kG (Cond.methodLink RX2 20 yX2_drawBehind) := ⟨tk_4 _ (List.mem_of_getElem? (i := 31) (by decide +kernel)), Or.inl rfl⟩
theorem wd_808 : kG (Cond.static yX2_drawBehind) := ⟨tk_4 _ (List.mem_of_getElem? (i := 32) (by decide +kernel)), Or.inl rfl⟩
theorem wd_809 : kG (Cond.code yX2_drawBehind cX2_drawBehind 1 (some .int)) := ⟨tk_4 _ (List.mem_of_getElem? (i := 33) (by decide +kernel)), Or.inl rfl⟩
theorem wd_810 : kG (Cond.constant RX2 19 (65537)) := ⟨tk_4 _ (List.mem_of_getElem? (i := 34) (by decide +kernel)), Or.inl rfl⟩
theorem gp_wsX11_grown : GoodIn lw_tbl wsX11_grown := k_gc wd_799 (goodIn_app (goodIn_app (k_gc wd_35 (k_gc wd_144 (k_gc wd_145 (k_gc wd_146 (k_gc wd_112 (k_gc wd_147 (k_gc wd_148 (k_gc wd_800 (k_gc wd_801 (k_gc wd_802 (k_gc wd_803 (k_gc wd_804 (k_gc wd_805 (k_gc wd_769 (k_gc wd_806 (k_gc wd_807 (k_gc wd_808 (k_gc wd_809 (k_gc wd_810 (k_gc wd_347 (k_gc wd_348 (k_gc wd_349 (k_gc wd_350 k_gn))))))))))))))))))))))) (k_G_wsX110)) (k_G_wsX40))
theorem wd_811 : kG (Cond.methodLink RL 242 yX11_grown) := ⟨tk_4 _ (List.mem_of_getElem? (i := 20) (by decide +kernel)), Or.inl rfl⟩
theorem wd_812 : kG (Cond.instanceMethod yX11_grown) := ⟨tk_4 _ (List.mem_of_getElem? (i := 21) (by decide +kernel)), Or.inl rfl⟩
theorem wd_813 : kG (Cond.selects RX11 yX11_grown yX11_grown) := ⟨tk_4 _ (List.mem_of_getElem? (i := 22) (by decide +kernel)), Or.inl rfl⟩
theorem wd_814 : kG (Cond.code yX11_longestRun cX11_longestRun 3 (some .int)) := ⟨tk_4 _ (List.mem_of_getElem? (i := 38) (by decide +kernel)), Or.inl rfl⟩
theorem wd_815 : kG (Cond.methodLink RX11 314 yX2_longestBy) := ⟨tk_4 _ (List.mem_of_getElem? (i := 39) (by decide +kernel)), Or.inl rfl⟩
theorem wd_816 : kG (Cond.static yX2_longestBy) := ⟨tk_4 _ (List.mem_of_getElem? (i := 40) (by decide +kernel)), Or.inl rfl⟩
theorem wd_817 : kG (Cond.code yX2_longestBy cX2_longestBy 7 (some .int)) := ⟨tk_4 _ (List.mem_of_getElem? (i := 41) (by decide +kernel)), Or.inl rfl⟩
theorem wd_818 : kG (Cond.methodLink RX2 24 Lib.Math.max.name) := ⟨tk_4 _ (List.mem_of_getElem? (i := 42) (by decide +kernel)), Or.inl rfl⟩
theorem gp_wsX11_longestRun_r1 : GoodIn lw_tbl wsX11_longestRun_r1 := k_gc wd_35 (k_gc wd_144 (k_gc wd_145 (k_gc wd_146 (k_gc wd_112 (k_gc wd_147 (k_gc wd_148 (k_gc wd_800 (k_gc wd_801 (k_gc wd_802 (k_gc wd_803 (k_gc wd_815 (k_gc wd_816 (k_gc wd_769 (k_gc wd_817 (k_gc wd_818 (k_gc wd_493 (k_gc wd_410 (k_gc wd_494 (k_gc wd_807 (k_gc wd_808 (k_gc wd_809 (k_gc wd_810 (k_gc wd_347 k_gn)))))))))))))))))))))))
theorem gp_wsX11_longestRun_r2 : GoodIn lw_tbl wsX11_longestRun_r2 := k_gc wd_348 (k_gc wd_349 (k_gc wd_350 k_gn))
theorem gp_wsX11_longestRun : GoodIn lw_tbl wsX11_longestRun := k_gc wd_814 (goodIn_app (goodIn_app (goodIn_app (gp_wsX11_longestRun_r1) (gp_wsX11_longestRun_r2)) (k_G_wsX110)) (k_G_wsX40))
theorem wd_819 : kG (Cond.methodLink RL 245 yX11_longestRun) := ⟨tk_4 _ (List.mem_of_getElem? (i := 35) (by decide +kernel)), Or.inl rfl⟩
theorem wd_820 : kG (Cond.instanceMethod yX11_longestRun) := ⟨tk_4 _ (List.mem_of_getElem? (i := 36) (by decide +kernel)), Or.inl rfl⟩
theorem wd_821 : kG (Cond.selects RX11 yX11_longestRun yX11_longestRun) := ⟨tk_4 _ (List.mem_of_getElem? (i := 37) (by decide +kernel)), Or.inl rfl⟩
theorem wd_822 : kG (Cond.code yL_act cL_act 8 (some .int)) := ⟨tk_5 _ (List.mem_of_getElem? (i := 84) (by decide +kernel)), Or.inl rfl⟩
theorem wd_823 : kG (Cond.methodLink RL 83 yL_slipped) := ⟨tk_5 _ (List.mem_of_getElem? (i := 85) (by decide +kernel)), Or.inl rfl⟩
theorem wd_824 : kG (Cond.static yL_slipped) := ⟨tk_5 _ (List.mem_of_getElem? (i := 86) (by decide +kernel)), Or.inl rfl⟩
theorem wd_825 : kG (Cond.code yL_slipped cL_slipped 3 (some .int)) := ⟨tk_5 _ (List.mem_of_getElem? (i := 87) (by decide +kernel)), Or.inl rfl⟩
theorem wd_826 : kG (Cond.methodLink RL 86 yX11_slip) := ⟨tk_5 _ (List.mem_of_getElem? (i := 88) (by decide +kernel)), Or.inl rfl⟩
theorem wd_827 : kG (Cond.instanceMethod yX11_slip) := ⟨tk_5 _ (List.mem_of_getElem? (i := 89) (by decide +kernel)), Or.inl rfl⟩
theorem wd_828 : kG (Cond.selects RX11 yX11_slip yX11_slip) := ⟨tk_5 _ (List.mem_of_getElem? (i := 90) (by decide +kernel)), Or.inl rfl⟩
theorem wd_829 : kG (Cond.code yX11_slip cX11_slip 4 (some .int)) := ⟨tk_5 _ (List.mem_of_getElem? (i := 91) (by decide +kernel)), Or.inl rfl⟩
theorem gp_wsL_act_r1 : GoodIn lw_tbl wsL_act_r1 := k_gc wd_823 (k_gc wd_824 (k_gc wd_97 (k_gc wd_825 (k_gc wd_826 (k_gc wd_827 (k_gc wd_828 (k_gc wd_112 (k_gc wd_829 (k_gc wd_15 (k_gc wd_474 (k_gc wd_475 (k_gc wd_476 (k_gc wd_477 (k_gc wd_144 (k_gc wd_145 (k_gc wd_146 (k_gc wd_147 (k_gc wd_148 (k_gc wd_479 (k_gc wd_317 (k_gc wd_318 (k_gc wd_14 (k_gc wd_319 k_gn)))))))))))))))))))))))
theorem wd_830 : kG (Cond.methodLink RX11 318 yX11_change) := ⟨tk_5 _ (List.mem_of_getElem? (i := 92) (by decide +kernel)), Or.inl rfl⟩
theorem wd_831 : kG (Cond.instanceMethod yX11_change) := ⟨tk_5 _ (List.mem_of_getElem? (i := 94) (by decide +kernel)), Or.inl rfl⟩
theorem wd_832 : kG (Cond.selects RX11 yX11_change yX11_change) := ⟨List.mem_of_getElem? (i := 27) (by decide +kernel), Or.inl rfl⟩
theorem wd_833 : kG (Cond.code yX11_change cX11_change 4 none) := ⟨tk_5 _ (List.mem_of_getElem? (i := 95) (by decide +kernel)), Or.inl rfl⟩
theorem wd_834 : kG (Cond.methodLink RX11 339 yX0_keep) := ⟨tk_5 _ (List.mem_of_getElem? (i := 96) (by decide +kernel)), Or.inl rfl⟩
theorem wd_835 : kG (Cond.instanceMethod yX0_keep) := ⟨tk_5 _ (List.mem_of_getElem? (i := 97) (by decide +kernel)), Or.inl rfl⟩
theorem wd_836 : kG (Cond.selects RX0 yX0_keep yX0_keep) := ⟨tk_5 _ (List.mem_of_getElem? (i := 98) (by decide +kernel)), Or.inl rfl⟩
theorem wd_837 : kG (Cond.code yX0_keep cX0_keep 4 none) := ⟨tk_5 _ (List.mem_of_getElem? (i := 99) (by decide +kernel)), Or.inl rfl⟩
theorem wd_838 : kG (Cond.fieldLink RX0 21 "ClosePacking$Acts" "count" "I") := ⟨tk_1 _ (List.mem_of_getElem? (i := 110) (by decide +kernel)), Or.inl rfl⟩
theorem gp_wsL_act_r2 : GoodIn lw_tbl wsL_act_r2 := k_gc wd_52 (k_gc wd_314 (k_gc wd_315 (k_gc wd_478 (k_gc wd_342 (k_gc wd_343 (k_gc wd_344 (k_gc wd_51 (k_gc wd_619 (k_gc wd_596 (k_gc wd_388 (k_gc wd_597 (k_gc wd_830 (k_gc wd_831 (k_gc wd_832 (k_gc wd_833 (k_gc wd_19 (k_gc wd_834 (k_gc wd_835 (k_gc wd_836 (k_gc wd_18 (k_gc wd_837 (k_gc wd_838 (k_gc wd_56 k_gn)))))))))))))))))))))))
theorem wd_839 : kG (Cond.methodLink RX0 25 yX0_forgetFirst) := ⟨tk_5 _ (List.mem_of_getElem? (i := 100) (by decide +kernel)), Or.inl rfl⟩
theorem wd_840 : kG (Cond.instanceMethod yX0_forgetFirst) := ⟨tk_5 _ (List.mem_of_getElem? (i := 102) (by decide +kernel)), Or.inl rfl⟩
theorem wd_841 : kG (Cond.selects RX0 yX0_forgetFirst yX0_forgetFirst) := ⟨List.mem_of_getElem? (i := 28) (by decide +kernel), Or.inl rfl⟩
theorem wd_842 : kG (Cond.code yX0_forgetFirst cX0_forgetFirst 2 none) := ⟨tk_5 _ (List.mem_of_getElem? (i := 103) (by decide +kernel)), Or.inl rfl⟩
theorem wd_843 : kG (Cond.methodLink RX11 341 yX9_put) := ⟨tk_5 _ (List.mem_of_getElem? (i := 105) (by decide +kernel)), Or.inl rfl⟩
theorem wd_844 : kG (Cond.methodLink RL 89 yL_look) := ⟨tk_5 _ (List.mem_of_getElem? (i := 106) (by decide +kernel)), Or.inl rfl⟩
theorem wd_845 : kG (Cond.static yL_look) := ⟨tk_5 _ (List.mem_of_getElem? (i := 107) (by decide +kernel)), Or.inl rfl⟩
theorem wd_846 : kG (Cond.code yL_look cL_look 8 (some .int)) := ⟨tk_5 _ (List.mem_of_getElem? (i := 108) (by decide +kernel)), Or.inl rfl⟩
theorem wd_847 : kG (Cond.methodLink RL 93 yX11_turn) := ⟨tk_5 _ (List.mem_of_getElem? (i := 109) (by decide +kernel)), Or.inl rfl⟩
theorem wd_848 : kG (Cond.instanceMethod yX11_turn) := ⟨tk_5 _ (List.mem_of_getElem? (i := 110) (by decide +kernel)), Or.inl rfl⟩
theorem gp_wsL_act_r3 : GoodIn lw_tbl wsL_act_r3 := k_gc wd_57 (k_gc wd_58 (k_gc wd_839 (k_gc wd_840 (k_gc wd_841 (k_gc wd_842 (k_gc wd_300 (k_gc wd_301 (k_gc wd_843 (k_gc wd_297 (k_gc wd_298 (k_gc wd_299 (k_gc wd_347 (k_gc wd_348 (k_gc wd_349 (k_gc wd_350 (k_gc wd_844 (k_gc wd_845 (k_gc wd_846 (k_gc wd_424 (k_gc wd_425 (k_gc wd_426 (k_gc wd_847 (k_gc wd_848 k_gn)))))))))))))))))))))))
theorem wd_849 : kG (Cond.selects RX11 yX11_turn yX11_turn) := ⟨tk_5 _ (List.mem_of_getElem? (i := 111) (by decide +kernel)), Or.inl rfl⟩
theorem wd_850 : kG (Cond.code yX11_turn cX11_turn 3 (some .int)) := ⟨tk_5 _ (List.mem_of_getElem? (i := 112) (by decide +kernel)), Or.inl rfl⟩
theorem wd_851 : kG (Cond.methodLink RX11 322 yX8_turned) := ⟨tk_5 _ (List.mem_of_getElem? (i := 113) (by decide +kernel)), Or.inl rfl⟩
theorem wd_852 : kG (Cond.methodLink RL 96 yX11_twin) := ⟨tk_5 _ (List.mem_of_getElem? (i := 114) (by decide +kernel)), Or.inl rfl⟩
theorem wd_853 : kG (Cond.instanceMethod yX11_twin) := ⟨tk_5 _ (List.mem_of_getElem? (i := 115) (by decide +kernel)), Or.inl rfl⟩
theorem wd_854 : kG (Cond.selects RX11 yX11_twin yX11_twin) := ⟨tk_5 _ (List.mem_of_getElem? (i := 116) (by decide +kernel)), Or.inl rfl⟩
theorem wd_855 : kG (Cond.code yX11_twin cX11_twin 3 (some .int)) := ⟨tk_5 _ (List.mem_of_getElem? (i := 117) (by decide +kernel)), Or.inl rfl⟩
theorem wd_856 : kG (Cond.methodLink RX11 325 yX8_twinned) := ⟨tk_5 _ (List.mem_of_getElem? (i := 118) (by decide +kernel)), Or.inl rfl⟩
theorem wd_857 : kG (Cond.methodLink RL 99 yX11_grow) := ⟨tk_5 _ (List.mem_of_getElem? (i := 119) (by decide +kernel)), Or.inl rfl⟩
theorem wd_858 : kG (Cond.instanceMethod yX11_grow) := ⟨tk_5 _ (List.mem_of_getElem? (i := 120) (by decide +kernel)), Or.inl rfl⟩
theorem wd_859 : kG (Cond.selects RX11 yX11_grow yX11_grow) := ⟨tk_5 _ (List.mem_of_getElem? (i := 121) (by decide +kernel)), Or.inl rfl⟩
theorem wd_860 : kG (Cond.code yX11_grow cX11_grow 4 (some .int)) := ⟨tk_5 _ (List.mem_of_getElem? (i := 122) (by decide +kernel)), Or.inl rfl⟩
theorem wd_861 : kG (Cond.methodLink RL 103 yX11_trouble) := ⟨tk_5 _ (List.mem_of_getElem? (i := 123) (by decide +kernel)), Or.inl rfl⟩
theorem wd_862 : kG (Cond.instanceMethod yX11_trouble) := ⟨tk_5 _ (List.mem_of_getElem? (i := 124) (by decide +kernel)), Or.inl rfl⟩
theorem wd_863 : kG (Cond.selects RX11 yX11_trouble yX11_trouble) := ⟨tk_5 _ (List.mem_of_getElem? (i := 125) (by decide +kernel)), Or.inl rfl⟩
theorem wd_864 : kG (Cond.code yX11_trouble cX11_trouble 1 (some .int)) := ⟨tk_5 _ (List.mem_of_getElem? (i := 126) (by decide +kernel)), Or.inl rfl⟩
theorem wd_865 : kG (Cond.methodLink RL 107 yX11_cut) := ⟨tk_5 _ (List.mem_of_getElem? (i := 127) (by decide +kernel)), Or.inl rfl⟩
theorem gp_wsL_act_r4 : GoodIn lw_tbl wsL_act_r4 := k_gc wd_849 (k_gc wd_850 (k_gc wd_851 (k_gc wd_387 (k_gc wd_389 (k_gc wd_852 (k_gc wd_853 (k_gc wd_854 (k_gc wd_855 (k_gc wd_856 (k_gc wd_456 (k_gc wd_457 (k_gc wd_458 (k_gc wd_440 (k_gc wd_441 (k_gc wd_857 (k_gc wd_858 (k_gc wd_859 (k_gc wd_860 (k_gc wd_861 (k_gc wd_862 (k_gc wd_863 (k_gc wd_864 (k_gc wd_865 k_gn)))))))))))))))))))))))
theorem wd_866 : kG (Cond.instanceMethod yX11_cut) := ⟨tk_5 _ (List.mem_of_getElem? (i := 128) (by decide +kernel)), Or.inl rfl⟩
theorem wd_867 : kG (Cond.selects RX11 yX11_cut yX11_cut) := ⟨tk_5 _ (List.mem_of_getElem? (i := 129) (by decide +kernel)), Or.inl rfl⟩
theorem wd_868 : kG (Cond.code yX11_cut cX11_cut 3 (some .int)) := ⟨tk_5 _ (List.mem_of_getElem? (i := 130) (by decide +kernel)), Or.inl rfl⟩
theorem gp_wsL_act_r5 : GoodIn lw_tbl wsL_act_r5 := k_gc wd_866 (k_gc wd_867 (k_gc wd_868 k_gn))
theorem gp_wsL_act : GoodIn lw_tbl wsL_act := k_gc wd_822 (goodIn_app (goodIn_app (goodIn_app (goodIn_app (gp_wsL_act_r1) (goodIn_app (gp_wsL_act_r2) (goodIn_app (gp_wsL_act_r3) (goodIn_app (gp_wsL_act_r4) (gp_wsL_act_r5))))) (k_G_wsX110)) (k_G_wsX90)) (k_G_wsX00))
theorem wd_869 : kG (Cond.methodLink RL 248 yL_act) := ⟨tk_5 _ (List.mem_of_getElem? (i := 82) (by decide +kernel)), Or.inl rfl⟩
theorem wd_870 : kG (Cond.static yL_act) := ⟨tk_5 _ (List.mem_of_getElem? (i := 83) (by decide +kernel)), Or.inl rfl⟩
theorem wd_871 : kG (Cond.code yX11_back cX11_back 2 (some .boolean)) := ⟨tk_4 _ (List.mem_of_getElem? (i := 71) (by decide +kernel)), Or.inl rfl⟩
theorem wd_872 : kG (Cond.methodLink RX11 335 yX3_bring) := ⟨tk_4 _ (List.mem_of_getElem? (i := 72) (by decide +kernel)), Or.inl rfl⟩
theorem wd_873 : kG (Cond.instanceMethod yX3_bring) := ⟨tk_4 _ (List.mem_of_getElem? (i := 73) (by decide +kernel)), Or.inl rfl⟩
theorem wd_874 : kG (Cond.selects RX3 yX3_bring yX3_bring) := ⟨tk_4 _ (List.mem_of_getElem? (i := 74) (by decide +kernel)), Or.inl rfl⟩
theorem wd_875 : kG (Cond.code yX3_bring cX3_bring 4 none) := ⟨tk_4 _ (List.mem_of_getElem? (i := 75) (by decide +kernel)), Or.inl rfl⟩
theorem wd_876 : kG (Cond.methodLink RX3 39 yX9_put) := ⟨tk_4 _ (List.mem_of_getElem? (i := 77) (by decide +kernel)), Or.inl rfl⟩
theorem gp_wsX11_back : GoodIn lw_tbl wsX11_back := k_gc wd_871 (goodIn_app (goodIn_app (goodIn_app (goodIn_app (k_gc wd_23 (k_gc wd_148 (k_gc wd_15 (k_gc wd_19 (k_gc wd_872 (k_gc wd_873 (k_gc wd_874 (k_gc wd_22 (k_gc wd_875 (k_gc wd_62 (k_gc wd_63 (k_gc wd_314 (k_gc wd_112 (k_gc wd_315 (k_gc wd_876 (k_gc wd_297 (k_gc wd_298 (k_gc wd_14 (k_gc wd_299 (k_gc wd_51 (k_gc wd_52 (k_gc wd_300 (k_gc wd_301 k_gn))))))))))))))))))))))) (k_G_wsX110)) (k_G_wsX30)) (k_G_wsX00)) (k_G_wsX90))
theorem wd_877 : kG (Cond.methodLink RL 252 yX11_back) := ⟨tk_4 _ (List.mem_of_getElem? (i := 68) (by decide +kernel)), Or.inl rfl⟩
theorem wd_878 : kG (Cond.instanceMethod yX11_back) := ⟨tk_4 _ (List.mem_of_getElem? (i := 69) (by decide +kernel)), Or.inl rfl⟩
theorem wd_879 : kG (Cond.selects RX11 yX11_back yX11_back) := ⟨tk_4 _ (List.mem_of_getElem? (i := 70) (by decide +kernel)), Or.inl rfl⟩
theorem wd_880 : kG (Cond.code yX11_undo cX11_undo 1 (some .boolean)) := ⟨tk_4 _ (List.mem_of_getElem? (i := 46) (by decide +kernel)), Or.inl rfl⟩
theorem wd_881 : kG (Cond.methodLink RX11 328 yX0_takeBack) := ⟨tk_4 _ (List.mem_of_getElem? (i := 47) (by decide +kernel)), Or.inl rfl⟩
theorem wd_882 : kG (Cond.instanceMethod yX0_takeBack) := ⟨tk_4 _ (List.mem_of_getElem? (i := 48) (by decide +kernel)), Or.inl rfl⟩
theorem wd_883 : kG (Cond.selects RX0 yX0_takeBack yX0_takeBack) := ⟨tk_4 _ (List.mem_of_getElem? (i := 49) (by decide +kernel)), Or.inl rfl⟩
theorem wd_884 : kG (Cond.code yX0_takeBack cX0_takeBack 2 none) := ⟨tk_4 _ (List.mem_of_getElem? (i := 50) (by decide +kernel)), Or.inl rfl⟩
theorem wd_885 : kG (Cond.methodLink RX0 36 yX9_put) := ⟨tk_4 _ (List.mem_of_getElem? (i := 52) (by decide +kernel)), Or.inl rfl⟩
theorem gp_wsX11_undo : GoodIn lw_tbl wsX11_undo := k_gc wd_880 (goodIn_app (goodIn_app (goodIn_app (k_gc wd_19 (k_gc wd_148 (k_gc wd_15 (k_gc wd_881 (k_gc wd_882 (k_gc wd_883 (k_gc wd_18 (k_gc wd_884 (k_gc wd_838 (k_gc wd_56 (k_gc wd_57 (k_gc wd_58 (k_gc wd_314 (k_gc wd_112 (k_gc wd_315 (k_gc wd_885 (k_gc wd_297 (k_gc wd_298 (k_gc wd_14 (k_gc wd_299 (k_gc wd_51 (k_gc wd_52 (k_gc wd_300 (k_gc wd_301 k_gn)))))))))))))))))))))))) (k_G_wsX110)) (k_G_wsX00)) (k_G_wsX90))
theorem wd_886 : kG (Cond.methodLink RL 256 yX11_undo) := ⟨tk_4 _ (List.mem_of_getElem? (i := 43) (by decide +kernel)), Or.inl rfl⟩
theorem wd_887 : kG (Cond.instanceMethod yX11_undo) := ⟨tk_4 _ (List.mem_of_getElem? (i := 44) (by decide +kernel)), Or.inl rfl⟩
theorem wd_888 : kG (Cond.selects RX11 yX11_undo yX11_undo) := ⟨tk_4 _ (List.mem_of_getElem? (i := 45) (by decide +kernel)), Or.inl rfl⟩
theorem wd_889 : kG (Cond.code yX11_size cX11_size 2 (some .int)) := ⟨tk_4 _ (List.mem_of_getElem? (i := 81) (by decide +kernel)), Or.inl rfl⟩
theorem gp_wsX11_size : GoodIn lw_tbl wsX11_size := k_gc wd_889 (goodIn_app (goodIn_app (goodIn_app (goodIn_app (goodIn_app (goodIn_app (k_gc wd_35 (k_gc wd_15 (k_gc wd_19 (k_gc wd_23 (k_gc wd_7 k_gn))))) (k_G_wsX110)) (k_G_wsX40)) (k_G_wsX90)) (k_G_wsX00)) (k_G_wsX30)) (k_G_wsX100))
theorem wd_890 : kG (Cond.methodLink RL 260 yX11_size) := ⟨tk_4 _ (List.mem_of_getElem? (i := 78) (by decide +kernel)), Or.inl rfl⟩
theorem wd_891 : kG (Cond.instanceMethod yX11_size) := ⟨tk_4 _ (List.mem_of_getElem? (i := 79) (by decide +kernel)), Or.inl rfl⟩
theorem wd_892 : kG (Cond.selects RX11 yX11_size yX11_size) := ⟨tk_4 _ (List.mem_of_getElem? (i := 80) (by decide +kernel)), Or.inl rfl⟩
theorem gL_law_X11_init : GoodIn lw_tbl (wsX11_init) := gp_wsX11_init
theorem gL_law_L_told : GoodIn lw_tbl (va_wsS RL 111 yL_told wsL_told) := goodIn_app (k_gc wd_351 (k_gc wd_352 (k_gc wd_97 k_gn))) (gp_wsL_told)
theorem gL_law_X11_image : GoodIn lw_tbl (wsV RL 115 RX11 yX11_image wsX11_image) := goodIn_app (k_gc wd_361 (k_gc wd_362 (k_gc wd_363 (k_gc wd_112 k_gn)))) (gp_wsX11_image)
theorem gL_law_X11_groundMany : GoodIn lw_tbl (wsV RL 118 RX11 yX11_groundMany wsX11_groundMany) := goodIn_app (k_gc wd_412 (k_gc wd_413 (k_gc wd_414 (k_gc wd_112 k_gn)))) (gp_wsX11_groundMany)
theorem gL_law_X11_groundRow : GoodIn lw_tbl (wsV RL 121 RX11 yX11_groundRow wsX11_groundRow) := goodIn_app (k_gc wd_420 (k_gc wd_421 (k_gc wd_422 (k_gc wd_112 k_gn)))) (gp_wsX11_groundRow)
theorem gL_law_L_energy : GoodIn lw_tbl (va_wsS RL 124 yL_energy wsL_energy) := goodIn_app (k_gc wd_427 (k_gc wd_428 (k_gc wd_97 k_gn))) (gp_wsL_energy)
theorem gL_law_X11_ground : GoodIn lw_tbl (wsV RL 128 RX11 yX11_ground wsX11_ground) := goodIn_app (k_gc wd_432 (k_gc wd_433 (k_gc wd_434 (k_gc wd_112 k_gn)))) (gp_wsX11_ground)
theorem gL_law_X11_kinds : GoodIn lw_tbl (wsV RL 131 RX11 yX11_kinds wsX11_kinds) := goodIn_app (k_gc wd_466 (k_gc wd_467 (k_gc wd_468 (k_gc wd_112 k_gn)))) (gp_wsX11_kinds)
theorem gL_law_X11_groundBest : GoodIn lw_tbl (wsV RL 135 RX11 yX11_groundBest wsX11_groundBest) := goodIn_app (k_gc wd_470 (k_gc wd_471 (k_gc wd_472 (k_gc wd_112 k_gn)))) (gp_wsX11_groundBest)
theorem gL_law_L_cell : GoodIn lw_tbl (va_wsS RL 25 yL_cell wsL_cell) := goodIn_app (k_gc wd_95 (k_gc wd_96 (k_gc wd_97 k_gn))) (gp_wsL_cell)
theorem gL_law_X11_stack : GoodIn lw_tbl (wsV RL 138 RX11 yX11_stack wsX11_stack) := goodIn_app (k_gc wd_496 (k_gc wd_497 (k_gc wd_498 (k_gc wd_112 k_gn)))) (gp_wsX11_stack)
theorem gL_law_X11_sum : GoodIn lw_tbl (wsV RL 141 RX11 yX11_sum wsX11_sum) := goodIn_app (k_gc wd_501 (k_gc wd_502 (k_gc wd_503 (k_gc wd_112 k_gn)))) (gp_wsX11_sum)
theorem gL_law_X11_run : GoodIn lw_tbl (wsV RL 144 RX11 yX11_run wsX11_run) := goodIn_app (k_gc wd_517 (k_gc wd_518 (k_gc wd_519 (k_gc wd_112 k_gn)))) (gp_wsX11_run)
theorem gL_law_X11_layer : GoodIn lw_tbl (wsV RL 147 RX11 yX11_layer wsX11_layer) := goodIn_app (k_gc wd_527 (k_gc wd_528 (k_gc wd_529 (k_gc wd_112 k_gn)))) (gp_wsX11_layer)
theorem gL_law_X11_hex : GoodIn lw_tbl (wsV RL 150 RX11 yX11_hex wsX11_hex) := goodIn_app (k_gc wd_535 (k_gc wd_536 (k_gc wd_537 (k_gc wd_112 k_gn)))) (gp_wsX11_hex)
theorem gL_law_X11_agree : GoodIn lw_tbl (wsV RL 153 RX11 yX11_agree wsX11_agree) := goodIn_app (k_gc wd_545 (k_gc wd_546 (k_gc wd_547 (k_gc wd_112 k_gn)))) (gp_wsX11_agree)
theorem gL_law_X11_energy : GoodIn lw_tbl (wsV RL 156 RX11 yX11_energy wsX11_energy) := goodIn_app (k_gc wd_550 (k_gc wd_551 (k_gc wd_552 (k_gc wd_112 k_gn)))) (gp_wsX11_energy)
theorem gL_law_X11_calmest : GoodIn lw_tbl (wsV RL 158 RX11 yX11_calmest wsX11_calmest) := goodIn_app (k_gc wd_554 (k_gc wd_555 (k_gc wd_556 (k_gc wd_112 k_gn)))) (gp_wsX11_calmest)
theorem gL_law_X11_out : GoodIn lw_tbl (wsV RL 161 RX11 yX11_out wsX11_out) := goodIn_app (k_gc wd_579 (k_gc wd_580 (k_gc wd_581 (k_gc wd_112 k_gn)))) (gp_wsX11_out)
theorem gL_law_X11_firstLine : GoodIn lw_tbl (wsV RL 164 RX11 yX11_firstLine wsX11_firstLine) := goodIn_app (k_gc wd_583 (k_gc wd_584 (k_gc wd_585 (k_gc wd_112 k_gn)))) (gp_wsX11_firstLine)
theorem gL_law_X11_outs : GoodIn lw_tbl (wsV RL 167 RX11 yX11_outs wsX11_outs) := goodIn_app (k_gc wd_587 (k_gc wd_588 (k_gc wd_589 (k_gc wd_112 k_gn)))) (gp_wsX11_outs)
theorem gL_law_X11_weakest : GoodIn lw_tbl (wsV RL 170 RX11 yX11_weakest wsX11_weakest) := goodIn_app (k_gc wd_599 (k_gc wd_600 (k_gc wd_601 (k_gc wd_112 k_gn)))) (gp_wsX11_weakest)
theorem gL_law_X11_relaxed : GoodIn lw_tbl (wsV RL 173 RX11 yX11_relaxed wsX11_relaxed) := goodIn_app (k_gc wd_611 (k_gc wd_612 (k_gc wd_613 (k_gc wd_112 k_gn)))) (gp_wsX11_relaxed)
theorem gL_law_X11_relax : GoodIn lw_tbl (wsV RL 176 RX11 yX11_relax wsX11_relax) := goodIn_app (k_gc wd_615 (k_gc wd_616 (k_gc wd_617 (k_gc wd_112 k_gn)))) (gp_wsX11_relax)
theorem gL_law_X11_slipEnergy : GoodIn lw_tbl (wsV RL 179 RX11 yX11_slipEnergy wsX11_slipEnergy) := goodIn_app (k_gc wd_620 (k_gc wd_621 (k_gc wd_622 (k_gc wd_112 k_gn)))) (gp_wsX11_slipEnergy)
theorem gL_law_X11_faultEnergy : GoodIn lw_tbl (wsV RL 182 RX11 yX11_faultEnergy wsX11_faultEnergy) := goodIn_app (k_gc wd_627 (k_gc wd_628 (k_gc wd_629 (k_gc wd_112 k_gn)))) (gp_wsX11_faultEnergy)
theorem gL_law_X11_bestFault : GoodIn lw_tbl (wsV RL 185 RX11 yX11_bestFault wsX11_bestFault) := goodIn_app (k_gc wd_631 (k_gc wd_632 (k_gc wd_633 (k_gc wd_112 k_gn)))) (gp_wsX11_bestFault)
theorem gL_law_X11_differs : GoodIn lw_tbl (wsV RL 188 RX11 yX11_differs wsX11_differs) := goodIn_app (k_gc wd_635 (k_gc wd_636 (k_gc wd_637 (k_gc wd_112 k_gn)))) (gp_wsX11_differs)
theorem gL_law_X11_sameLines : GoodIn lw_tbl (wsV RL 191 RX11 yX11_sameLines wsX11_sameLines) := goodIn_app (k_gc wd_639 (k_gc wd_640 (k_gc wd_641 (k_gc wd_112 k_gn)))) (gp_wsX11_sameLines)
theorem gL_law_X11_pass : GoodIn lw_tbl (wsV RL 194 RX11 yX11_pass wsX11_pass) := goodIn_app (k_gc wd_659 (k_gc wd_660 (k_gc wd_661 (k_gc wd_112 k_gn)))) (gp_wsX11_pass)
theorem gL_law_X11_valley : GoodIn lw_tbl (wsV RL 197 RX11 yX11_valley wsX11_valley) := goodIn_app (k_gc wd_664 (k_gc wd_665 (k_gc wd_666 (k_gc wd_112 k_gn)))) (gp_wsX11_valley)
theorem gL_law_X11_least : GoodIn lw_tbl (wsV RL 200 RX11 yX11_least wsX11_least) := goodIn_app (k_gc wd_675 (k_gc wd_676 (k_gc wd_677 (k_gc wd_112 k_gn)))) (gp_wsX11_least)
theorem gL_law_X11_manyAlike : GoodIn lw_tbl (wsV RL 203 RX11 yX11_manyAlike wsX11_manyAlike) := goodIn_app (k_gc wd_683 (k_gc wd_684 (k_gc wd_685 (k_gc wd_112 k_gn)))) (gp_wsX11_manyAlike)
theorem gL_law_X11_alike : GoodIn lw_tbl (wsV RL 206 RX11 yX11_alike wsX11_alike) := goodIn_app (k_gc wd_687 (k_gc wd_688 (k_gc wd_689 (k_gc wd_112 k_gn)))) (gp_wsX11_alike)
theorem gL_law_X11_slips : GoodIn lw_tbl (wsV RL 209 RX11 yX11_slips wsX11_slips) := goodIn_app (k_gc wd_694 (k_gc wd_695 (k_gc wd_696 (k_gc wd_112 k_gn)))) (gp_wsX11_slips)
theorem gL_law_X11_fits : GoodIn lw_tbl (wsV RL 212 RX11 yX11_fits wsX11_fits) := goodIn_app (k_gc wd_719 (k_gc wd_720 (k_gc wd_721 (k_gc wd_112 k_gn)))) (gp_wsX11_fits)
theorem gL_law_X11_judge : GoodIn lw_tbl (wsV RL 215 RX11 yX11_judge wsX11_judge) := goodIn_app (k_gc wd_724 (k_gc wd_725 (k_gc wd_726 (k_gc wd_112 k_gn)))) (gp_wsX11_judge)
theorem gL_law_X11_askLeaves : GoodIn lw_tbl (wsV RL 218 RX11 yX11_askLeaves wsX11_askLeaves) := goodIn_app (k_gc wd_737 (k_gc wd_738 (k_gc wd_739 (k_gc wd_112 k_gn)))) (gp_wsX11_askLeaves)
theorem gL_law_X11_ask : GoodIn lw_tbl (wsV RL 221 RX11 yX11_ask wsX11_ask) := goodIn_app (k_gc wd_741 (k_gc wd_742 (k_gc wd_743 (k_gc wd_112 k_gn)))) (gp_wsX11_ask)
theorem gL_law_X11_surely : GoodIn lw_tbl (wsV RL 224 RX11 yX11_surely wsX11_surely) := goodIn_app (k_gc wd_748 (k_gc wd_749 (k_gc wd_750 (k_gc wd_112 k_gn)))) (gp_wsX11_surely)
theorem gL_law_X11_could : GoodIn lw_tbl (wsV RL 227 RX11 yX11_could wsX11_could) := goodIn_app (k_gc wd_755 (k_gc wd_756 (k_gc wd_757 (k_gc wd_112 k_gn)))) (gp_wsX11_could)
theorem gL_law_X11_fitAt : GoodIn lw_tbl (wsV RL 230 RX11 yX11_fitAt wsX11_fitAt) := goodIn_app (k_gc wd_762 (k_gc wd_763 (k_gc wd_764 (k_gc wd_112 k_gn)))) (gp_wsX11_fitAt)
theorem gL_law_X11_odds : GoodIn lw_tbl (wsV RL 233 RX11 yX11_odds wsX11_odds) := goodIn_app (k_gc wd_788 (k_gc wd_789 (k_gc wd_790 (k_gc wd_112 k_gn)))) (gp_wsX11_odds)
theorem gL_law_X11_meanSum : GoodIn lw_tbl (wsV RL 237 RX11 yX11_meanSum wsX11_meanSum) := goodIn_app (k_gc wd_796 (k_gc wd_797 (k_gc wd_798 (k_gc wd_112 k_gn)))) (gp_wsX11_meanSum)
theorem gL_law_X11_grown : GoodIn lw_tbl (wsV RL 242 RX11 yX11_grown wsX11_grown) := goodIn_app (k_gc wd_811 (k_gc wd_812 (k_gc wd_813 (k_gc wd_112 k_gn)))) (gp_wsX11_grown)
theorem gL_law_X11_longestRun : GoodIn lw_tbl (wsV RL 245 RX11 yX11_longestRun wsX11_longestRun) := goodIn_app (k_gc wd_819 (k_gc wd_820 (k_gc wd_821 (k_gc wd_112 k_gn)))) (gp_wsX11_longestRun)
theorem gL_law_L_act : GoodIn lw_tbl (va_wsS RL 248 yL_act wsL_act) := goodIn_app (k_gc wd_869 (k_gc wd_870 (k_gc wd_97 k_gn))) (gp_wsL_act)
theorem gL_law_X11_back : GoodIn lw_tbl (wsV RL 252 RX11 yX11_back wsX11_back) := goodIn_app (k_gc wd_877 (k_gc wd_878 (k_gc wd_879 (k_gc wd_112 k_gn)))) (gp_wsX11_back)
theorem gL_law_X11_undo : GoodIn lw_tbl (wsV RL 256 RX11 yX11_undo wsX11_undo) := goodIn_app (k_gc wd_886 (k_gc wd_887 (k_gc wd_888 (k_gc wd_112 k_gn)))) (gp_wsX11_undo)
theorem gL_law_X11_size : GoodIn lw_tbl (wsV RL 260 RX11 yX11_size wsX11_size) := goodIn_app (k_gc wd_890 (k_gc wd_891 (k_gc wd_892 (k_gc wd_112 k_gn)))) (gp_wsX11_size)
theorem wd_893 : kG (Cond.constant RL 241 (65535)) := ⟨tk_5 _ (List.mem_of_getElem? (i := 131) (by decide +kernel)), Or.inl rfl⟩
theorem lww_0 : (Cond.constant RL 241 (65535)) ∈ lw_tbl := wd_893.1
theorem wd_894 : kG (Cond.classLink RL 14 RX11) := ⟨tk_1 _ (List.mem_of_getElem? (i := 19) (by decide +kernel)), Or.inl rfl⟩
theorem lww_a : (Cond.classLink RL 14 RX11) ∈ lw_tbl := wd_894.1
theorem wd_895 : kG (Cond.instantiable RX11 12) := ⟨tk_1 _ (List.mem_of_getElem? (i := 20) (by decide +kernel)), Or.inl rfl⟩
theorem lww_b : (Cond.instantiable RX11 12) ∈ lw_tbl := wd_895.1
theorem lww_c : (Cond.initialized RX11) ∈ lw_tbl := wd_112.1
theorem wd_896 : kG (Cond.methodLink RL 110 yX11_init) := ⟨tk_1 _ (List.mem_of_getElem? (i := 21) (by decide +kernel)), Or.inl rfl⟩
theorem lww_d : (Cond.methodLink RL 110 yX11_init) ∈ lw_tbl := wd_896.1
theorem wd_897 : kG (Cond.instanceMethod yX11_init) := ⟨tk_1 _ (List.mem_of_getElem? (i := 22) (by decide +kernel)), Or.inl rfl⟩
theorem lww_e : (Cond.instanceMethod yX11_init) ∈ lw_tbl := wd_897.1
theorem lww_f : (Cond.arrayClass .int) ∈ lw_tbl := wd_50.1
