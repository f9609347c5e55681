theorem KV_X5_37 : b_KV RX5 37 yX1_stretchCount := ⟨(b_in 523 (by decide +kernel) rfl), (b_in 235 (by decide +kernel) rfl), (b_in 236 (by decide +kernel) rfl)⟩
theorem MM_X5_43 : b_MM Lib.Math.min.name Lib.Math.min.code 2 RX5 43 := ⟨(b_in 524 (by decide +kernel) rfl), (b_in 383 (by decide +kernel) rfl), (b_in 54 (by decide +kernel) rfl), (b_in 384 (by decide +kernel) rfl)⟩
theorem KV_X5_51 : b_KV RX5 51 yJx4a65c_size_8abf5 := ⟨(b_in 525 (by decide +kernel) rfl), (b_in 275 (by decide +kernel) rfl), (b_in 276 (by decide +kernel) rfl)⟩
theorem KV_X5_59 : b_KV RX5 59 yX1_firstShot := ⟨(b_in 526 (by decide +kernel) rfl), (b_in 243 (by decide +kernel) rfl), (b_in 244 (by decide +kernel) rfl)⟩
theorem KV_X5_63 : b_KV RX5 63 yX1_lastShot := ⟨(b_in 527 (by decide +kernel) rfl), (b_in 247 (by decide +kernel) rfl), (b_in 248 (by decide +kernel) rfl)⟩
theorem KV_X5_66 : b_KV RX5 66 yX1_tenthsFrom := ⟨(b_in 528 (by decide +kernel) rfl), (b_in 266 (by decide +kernel) rfl), (b_in 267 (by decide +kernel) rfl)⟩
theorem KV_X5_70 : b_KV RX5 70 yX1_moodOf := ⟨(b_in 529 (by decide +kernel) rfl), (b_in 258 (by decide +kernel) rfl), (b_in 259 (by decide +kernel) rfl)⟩
theorem KV_X5_73 : b_KV RX5 73 yX5_fitPieces := ⟨(b_in 530 (by decide +kernel) rfl), (b_in 532 (by decide +kernel) rfl), (b_in 9 (by decide +kernel) rfl)⟩
theorem KV_X5_87 : b_KV RX5 87 yJx4a65c_get_915e3 := ⟨(b_in 534 (by decide +kernel) rfl), (b_in 399 (by decide +kernel) rfl), (b_in 400 (by decide +kernel) rfl)⟩
theorem KV_X5_93 : b_KV RX5 93 yX4_hasMood := ⟨(b_in 536 (by decide +kernel) rfl), (b_in 537 (by decide +kernel) rfl), (b_in 538 (by decide +kernel) rfl)⟩
theorem KV_X5_97 : b_KV RX5 97 yX4_bestBeats := ⟨(b_in 540 (by decide +kernel) rfl), (b_in 484 (by decide +kernel) rfl), (b_in 485 (by decide +kernel) rfl)⟩
theorem KV_X5_100 : b_KV RX5 100 yX4_misses := ⟨(b_in 541 (by decide +kernel) rfl), (b_in 469 (by decide +kernel) rfl), (b_in 470 (by decide +kernel) rfl)⟩
theorem KV_X5_77 : b_KV RX5 77 yX5_weighJoins := ⟨(b_in 542 (by decide +kernel) rfl), (b_in 544 (by decide +kernel) rfl), (b_in 10 (by decide +kernel) rfl)⟩
theorem KSN_X5_106 : b_KSN RX5 106 yX6_fifthsBetween := ⟨⟨"ShadowBand", List.mem_filter.mpr ⟨List.mem_of_getElem? (i := 501) (by decide +kernel), rfl⟩⟩, (b_in 493 (by decide +kernel) rfl)⟩
theorem KV_X5_81 : b_KV RX5 81 yX5_shareBits := ⟨(b_in 548 (by decide +kernel) rfl), (b_in 550 (by decide +kernel) rfl), (b_in 11 (by decide +kernel) rfl)⟩
theorem KV_X5_120 : b_KV RX5 120 yX5_canBePlayed := ⟨(b_in 552 (by decide +kernel) rfl), (b_in 554 (by decide +kernel) rfl), (b_in 12 (by decide +kernel) rfl)⟩
theorem KV_X5_84 : b_KV RX5 84 yX5_makeRoom := ⟨(b_in 556 (by decide +kernel) rfl), (b_in 558 (by decide +kernel) rfl), (b_in 13 (by decide +kernel) rfl)⟩
theorem MM_X5_123 : b_MM Lib.Math.max.name Lib.Math.max.code 2 RX5 123 := ⟨(b_in 560 (by decide +kernel) rfl), (b_in 251 (by decide +kernel) rfl), (b_in 54 (by decide +kernel) rfl), (b_in 252 (by decide +kernel) rfl)⟩
theorem KV_X6_127 : b_KV RX6 127 yX5_leastFrom := ⟨(b_in 561 (by decide +kernel) rfl), (b_in 562 (by decide +kernel) rfl), (b_in 563 (by decide +kernel) rfl)⟩
theorem KV_X5_129 : b_KV RX5 129 yX5_placeOf := ⟨(b_in 565 (by decide +kernel) rfl), (b_in 567 (by decide +kernel) rfl), (b_in 14 (by decide +kernel) rfl)⟩
theorem KSN_X5_136 : b_KSN RX5 136 yX6_within := ⟨⟨"ShadowBand", List.mem_filter.mpr ⟨List.mem_of_getElem? (i := 524) (by decide +kernel), rfl⟩⟩, (b_in 211 (by decide +kernel) rfl)⟩
theorem KV_X5_132 : b_KV RX5 132 yX5_costWith := ⟨(b_in 570 (by decide +kernel) rfl), (b_in 572 (by decide +kernel) rfl), (b_in 15 (by decide +kernel) rfl)⟩
