/-! the words that the law needs; its wrappers: each calls a method of the class and catches what it throws; draw -/
theorem cw_L_pattern : CEW yL_pattern cL_pattern 5 (some .long) [(0, 8, 9, 15), (0, 8, 15, 19)] 4 := ⟨gdL_in 156 (by decide +kernel) (by decide +kernel), gdL_in 30 (by decide +kernel) (by decide +kernel), by decide +kernel, by decide +kernel, by decide +kernel⟩
theorem cs_L_pattern : CST yL_pattern := gdL_in 155 (by decide +kernel) (by decide +kernel)
theorem ce_X7_pattern : CEE yX7_pattern cX7_pattern 5 (some .int) 3 := ⟨gdL_in 162 (by decide +kernel) (by decide +kernel), gdL_in 31 (by decide +kernel) (by decide +kernel), by decide +kernel, by decide +kernel, by decide +kernel⟩
theorem cv_X7_pattern : CVI yX7_pattern := ⟨gdL_in 160 (by decide +kernel) (by decide +kernel), gdL_in 161 (by decide +kernel) (by decide +kernel)⟩
theorem lk_RL_9 : LNK RL 9 yX7_pattern := Or.inl (gdL_in 159 (by decide +kernel) (by decide +kernel))
theorem cl_RL_15 : Cond.classLink RL 15 "java/lang/IllegalArgumentException" ∈ gdL := gdL_in 157 (by decide +kernel) (by decide +kernel)
theorem ca_IllegalArgumentException : Cond.castable "java/lang/IllegalArgumentException" "java/lang/IllegalArgumentException" ∈ ngL := ngL_in 168 (by decide +kernel) (by decide +kernel)
theorem kl_17 : Cond.constantLong RL 17 (-9000000000000000002) ∈ gdL := gdL_in 293 (by decide +kernel) (by decide +kernel)
theorem cl_RL_19 : Cond.classLink RL 19 "java/lang/IllegalStateException" ∈ gdL := gdL_in 158 (by decide +kernel) (by decide +kernel)
theorem ca_IllegalStateException : Cond.castable "java/lang/IllegalStateException" "java/lang/IllegalStateException" ∈ ngL := ngL_in 237 (by decide +kernel) (by decide +kernel)
theorem kl_21 : Cond.constantLong RL 21 (-9000000000000000003) ∈ gdL := gdL_in 294 (by decide +kernel) (by decide +kernel)
theorem cw_L_paint : CEW yL_paint cL_paint 6 (some .long) [(0, 10, 11, 27), (0, 10, 17, 15)] 5 := ⟨gdL_in 297 (by decide +kernel) (by decide +kernel), gdL_in 30 (by decide +kernel) (by decide +kernel), by decide +kernel, by decide +kernel, by decide +kernel⟩
theorem cs_L_paint : CST yL_paint := gdL_in 296 (by decide +kernel) (by decide +kernel)
theorem ce_X7_paint : CEE yX7_paint cX7_paint 7 (some .int) 4 := ⟨gdL_in 302 (by decide +kernel) (by decide +kernel), gdL_in 31 (by decide +kernel) (by decide +kernel), by decide +kernel, by decide +kernel, by decide +kernel⟩
theorem cv_X7_paint : CVI yX7_paint := ⟨gdL_in 300 (by decide +kernel) (by decide +kernel), gdL_in 301 (by decide +kernel) (by decide +kernel)⟩
theorem lk_RL_23 : LNK RL 23 yX7_paint := Or.inl (gdL_in 299 (by decide +kernel) (by decide +kernel))
theorem cl_RL_27 : Cond.classLink RL 27 "java/lang/IndexOutOfBoundsException" ∈ gdL := gdL_in 298 (by decide +kernel) (by decide +kernel)
theorem ca_IndexOutOfBoundsException : Cond.castable "java/lang/IndexOutOfBoundsException" "java/lang/IndexOutOfBoundsException" ∈ ngL := ngL_in 309 (by decide +kernel) (by decide +kernel)
theorem kl_29 : Cond.constantLong RL 29 (-9000000000000000001) ∈ gdL := gdL_in 343 (by decide +kernel) (by decide +kernel)
theorem cw_L_colour : CEW yL_colour cL_colour 5 (some .long) [(0, 8, 9, 27)] 4 := ⟨gdL_in 346 (by decide +kernel) (by decide +kernel), gdL_in 30 (by decide +kernel) (by decide +kernel), by decide +kernel, by decide +kernel, by decide +kernel⟩
theorem cs_L_colour : CST yL_colour := gdL_in 345 (by decide +kernel) (by decide +kernel)
theorem ce_X7_colour : CEE yX7_colour cX7_colour 4 (some .int) 3 := ⟨gdL_in 350 (by decide +kernel) (by decide +kernel), gdL_in 31 (by decide +kernel) (by decide +kernel), by decide +kernel, by decide +kernel, by decide +kernel⟩
theorem cv_X7_colour : CVI yX7_colour := ⟨gdL_in 348 (by decide +kernel) (by decide +kernel), gdL_in 349 (by decide +kernel) (by decide +kernel)⟩
theorem lk_RL_31 : LNK RL 31 yX7_colour := Or.inl (gdL_in 347 (by decide +kernel) (by decide +kernel))
theorem cw_L_repeat : CEW yL_repeat cL_repeat 4 (some .long) [(0, 7, 8, 27)] 3 := ⟨gdL_in 367 (by decide +kernel) (by decide +kernel), gdL_in 30 (by decide +kernel) (by decide +kernel), by decide +kernel, by decide +kernel, by decide +kernel⟩
theorem cs_L_repeat : CST yL_repeat := gdL_in 366 (by decide +kernel) (by decide +kernel)
theorem ce_X7_repeat : CEE yX7_repeat cX7_repeat 4 (some .int) 2 := ⟨gdL_in 371 (by decide +kernel) (by decide +kernel), gdL_in 31 (by decide +kernel) (by decide +kernel), by decide +kernel, by decide +kernel, by decide +kernel⟩
theorem cv_X7_repeat : CVI yX7_repeat := ⟨gdL_in 369 (by decide +kernel) (by decide +kernel), gdL_in 370 (by decide +kernel) (by decide +kernel)⟩
theorem lk_RL_34 : LNK RL 34 yX7_repeat := Or.inl (gdL_in 368 (by decide +kernel) (by decide +kernel))
theorem cw_L_repeatAnew : CEW yL_repeatAnew cL_repeatAnew 4 (some .long) [(0, 7, 8, 27)] 3 := ⟨gdL_in 602 (by decide +kernel) (by decide +kernel), gdL_in 30 (by decide +kernel) (by decide +kernel), by decide +kernel, by decide +kernel, by decide +kernel⟩
theorem cs_L_repeatAnew : CST yL_repeatAnew := gdL_in 601 (by decide +kernel) (by decide +kernel)
theorem ce_X7_repeatAnew : CEE yX7_repeatAnew cX7_repeatAnew 3 (some .int) 2 := ⟨gdL_in 606 (by decide +kernel) (by decide +kernel), gdL_in 31 (by decide +kernel) (by decide +kernel), by decide +kernel, by decide +kernel, by decide +kernel⟩
theorem cv_X7_repeatAnew : CVI yX7_repeatAnew := ⟨gdL_in 604 (by decide +kernel) (by decide +kernel), gdL_in 605 (by decide +kernel) (by decide +kernel)⟩
theorem lk_RL_38 : LNK RL 38 yX7_repeatAnew := Or.inl (gdL_in 603 (by decide +kernel) (by decide +kernel))
theorem cw_L_roller : CEW yL_roller cL_roller 4 (some .long) [(0, 7, 8, 27), (0, 7, 13, 15), (0, 7, 18, 19)] 3 := ⟨gdL_in 374 (by decide +kernel) (by decide +kernel), gdL_in 30 (by decide +kernel) (by decide +kernel), by decide +kernel, by decide +kernel, by decide +kernel⟩
theorem cs_L_roller : CST yL_roller := gdL_in 373 (by decide +kernel) (by decide +kernel)
theorem ce_X7_roller : CEE yX7_roller cX7_roller 5 (some .int) 2 := ⟨gdL_in 378 (by decide +kernel) (by decide +kernel), gdL_in 31 (by decide +kernel) (by decide +kernel), by decide +kernel, by decide +kernel, by decide +kernel⟩
theorem cv_X7_roller : CVI yX7_roller := ⟨gdL_in 376 (by decide +kernel) (by decide +kernel), gdL_in 377 (by decide +kernel) (by decide +kernel)⟩
theorem lk_RL_41 : LNK RL 41 yX7_roller := Or.inl (gdL_in 375 (by decide +kernel) (by decide +kernel))
theorem cw_L_lot : CEW yL_lot cL_lot 6 (some .long) [(0, 10, 11, 27), (0, 10, 17, 15), (0, 10, 23, 19)] 5 := ⟨gdL_in 406 (by decide +kernel) (by decide +kernel), gdL_in 30 (by decide +kernel) (by decide +kernel), by decide +kernel, by decide +kernel, by decide +kernel⟩
theorem cs_L_lot : CST yL_lot := gdL_in 405 (by decide +kernel) (by decide +kernel)
theorem ce_X7_lot : CEE yX7_lot cX7_lot 7 (some .int) 4 := ⟨gdL_in 410 (by decide +kernel) (by decide +kernel), gdL_in 31 (by decide +kernel) (by decide +kernel), by decide +kernel, by decide +kernel, by decide +kernel⟩
theorem cv_X7_lot : CVI yX7_lot := ⟨gdL_in 408 (by decide +kernel) (by decide +kernel), gdL_in 409 (by decide +kernel) (by decide +kernel)⟩
theorem lk_RL_45 : LNK RL 45 yX7_lot := Or.inl (gdL_in 407 (by decide +kernel) (by decide +kernel))
theorem cw_L_lotOf : CEW yL_lotOf cL_lotOf 4 (some .long) [(0, 7, 8, 27), (0, 7, 13, 15)] 3 := ⟨gdL_in 451 (by decide +kernel) (by decide +kernel), gdL_in 30 (by decide +kernel) (by decide +kernel), by decide +kernel, by decide +kernel, by decide +kernel⟩
theorem cs_L_lotOf : CST yL_lotOf := gdL_in 450 (by decide +kernel) (by decide +kernel)
theorem ce_X7_lotOf : CEE yX7_lotOf cX7_lotOf 4 (some .int) 2 := ⟨gdL_in 455 (by decide +kernel) (by decide +kernel), gdL_in 31 (by decide +kernel) (by decide +kernel), by decide +kernel, by decide +kernel, by decide +kernel⟩
theorem cv_X7_lotOf : CVI yX7_lotOf := ⟨gdL_in 453 (by decide +kernel) (by decide +kernel), gdL_in 454 (by decide +kernel) (by decide +kernel)⟩
theorem lk_RL_48 : LNK RL 48 yX7_lotOf := Or.inl (gdL_in 452 (by decide +kernel) (by decide +kernel))
theorem cw_L_wall : CEW yL_wall cL_wall 5 (some .long) [(0, 8, 9, 27), (0, 8, 15, 15), (0, 8, 21, 19)] 4 := ⟨gdL_in 468 (by decide +kernel) (by decide +kernel), gdL_in 30 (by decide +kernel) (by decide +kernel), by decide +kernel, by decide +kernel, by decide +kernel⟩
theorem cs_L_wall : CST yL_wall := gdL_in 467 (by decide +kernel) (by decide +kernel)
theorem ce_X7_wall : CEE yX7_wall cX7_wall 6 (some .int) 3 := ⟨gdL_in 472 (by decide +kernel) (by decide +kernel), gdL_in 31 (by decide +kernel) (by decide +kernel), by decide +kernel, by decide +kernel, by decide +kernel⟩
theorem cv_X7_wall : CVI yX7_wall := ⟨gdL_in 470 (by decide +kernel) (by decide +kernel), gdL_in 471 (by decide +kernel) (by decide +kernel)⟩
theorem lk_RL_51 : LNK RL 51 yX7_wall := Or.inl (gdL_in 469 (by decide +kernel) (by decide +kernel))
theorem cw_L_hang : CEW yL_hang cL_hang 4 (some .long) [(0, 7, 8, 27), (0, 7, 13, 19)] 3 := ⟨gdL_in 510 (by decide +kernel) (by decide +kernel), gdL_in 30 (by decide +kernel) (by decide +kernel), by decide +kernel, by decide +kernel, by decide +kernel⟩
theorem cs_L_hang : CST yL_hang := gdL_in 509 (by decide +kernel) (by decide +kernel)
theorem ce_X7_hang : CEE yX7_hang cX7_hang 6 (some .int) 2 := ⟨gdL_in 514 (by decide +kernel) (by decide +kernel), gdL_in 31 (by decide +kernel) (by decide +kernel), by decide +kernel, by decide +kernel, by decide +kernel⟩
theorem cv_X7_hang : CVI yX7_hang := ⟨gdL_in 512 (by decide +kernel) (by decide +kernel), gdL_in 513 (by decide +kernel) (by decide +kernel)⟩
theorem lk_RL_54 : LNK RL 54 yX7_hang := Or.inl (gdL_in 511 (by decide +kernel) (by decide +kernel))
theorem cw_L_lengthen : CEW yL_lengthen cL_lengthen 5 (some .long) [(0, 8, 9, 27), (0, 8, 15, 15), (0, 8, 21, 19)] 4 := ⟨gdL_in 551 (by decide +kernel) (by decide +kernel), gdL_in 30 (by decide +kernel) (by decide +kernel), by decide +kernel, by decide +kernel, by decide +kernel⟩
theorem cs_L_lengthen : CST yL_lengthen := gdL_in 550 (by decide +kernel) (by decide +kernel)
theorem ce_X7_lengthen : CEE yX7_lengthen cX7_lengthen 8 (some .int) 3 := ⟨gdL_in 555 (by decide +kernel) (by decide +kernel), gdL_in 31 (by decide +kernel) (by decide +kernel), by decide +kernel, by decide +kernel, by decide +kernel⟩
theorem cv_X7_lengthen : CVI yX7_lengthen := ⟨gdL_in 553 (by decide +kernel) (by decide +kernel), gdL_in 554 (by decide +kernel) (by decide +kernel)⟩
theorem lk_RL_57 : LNK RL 57 yX7_lengthen := Or.inl (gdL_in 552 (by decide +kernel) (by decide +kernel))
theorem cw_L_strip : CEW yL_strip cL_strip 3 (some .long) [(0, 6, 7, 27), (0, 6, 12, 19)] 2 := ⟨gdL_in 576 (by decide +kernel) (by decide +kernel), gdL_in 30 (by decide +kernel) (by decide +kernel), by decide +kernel, by decide +kernel, by decide +kernel⟩
theorem cs_L_strip : CST yL_strip := gdL_in 575 (by decide +kernel) (by decide +kernel)
theorem ce_X7_strip : CEE yX7_strip cX7_strip 5 (some .int) 1 := ⟨gdL_in 580 (by decide +kernel) (by decide +kernel), gdL_in 31 (by decide +kernel) (by decide +kernel), by decide +kernel, by decide +kernel, by decide +kernel⟩
theorem cv_X7_strip : CVI yX7_strip := ⟨gdL_in 578 (by decide +kernel) (by decide +kernel), gdL_in 579 (by decide +kernel) (by decide +kernel)⟩
theorem lk_RL_60 : LNK RL 60 yX7_strip := Or.inl (gdL_in 577 (by decide +kernel) (by decide +kernel))
theorem cw_L_room : CEW yL_room cL_room 4 (some .long) [(0, 7, 8, 27), (0, 7, 13, 15)] 3 := ⟨gdL_in 583 (by decide +kernel) (by decide +kernel), gdL_in 30 (by decide +kernel) (by decide +kernel), by decide +kernel, by decide +kernel, by decide +kernel⟩
theorem cs_L_room : CST yL_room := gdL_in 582 (by decide +kernel) (by decide +kernel)
theorem ce_X7_room : CEE yX7_room cX7_room 4 (some .int) 2 := ⟨gdL_in 587 (by decide +kernel) (by decide +kernel), gdL_in 31 (by decide +kernel) (by decide +kernel), by decide +kernel, by decide +kernel, by decide +kernel⟩
theorem cv_X7_room : CVI yX7_room := ⟨gdL_in 585 (by decide +kernel) (by decide +kernel), gdL_in 586 (by decide +kernel) (by decide +kernel)⟩
theorem lk_RL_64 : LNK RL 64 yX7_room := Or.inl (gdL_in 584 (by decide +kernel) (by decide +kernel))
theorem cw_L_cut : CEW yL_cut cL_cut 5 (some .long) [(0, 8, 9, 27)] 4 := ⟨gdL_in 622 (by decide +kernel) (by decide +kernel), gdL_in 30 (by decide +kernel) (by decide +kernel), by decide +kernel, by decide +kernel, by decide +kernel⟩
theorem cs_L_cut : CST yL_cut := gdL_in 621 (by decide +kernel) (by decide +kernel)
theorem ce_X7_cut : CEE yX7_cut cX7_cut 6 (some .int) 3 := ⟨gdL_in 626 (by decide +kernel) (by decide +kernel), gdL_in 31 (by decide +kernel) (by decide +kernel), by decide +kernel, by decide +kernel, by decide +kernel⟩
theorem cv_X7_cut : CVI yX7_cut := ⟨gdL_in 624 (by decide +kernel) (by decide +kernel), gdL_in 625 (by decide +kernel) (by decide +kernel)⟩
theorem lk_RL_67 : LNK RL 67 yX7_cut := Or.inl (gdL_in 623 (by decide +kernel) (by decide +kernel))
theorem cw_L_seen : CEW yL_seen cL_seen 6 (some .long) [(0, 10, 11, 27)] 5 := ⟨gdL_in 630 (by decide +kernel) (by decide +kernel), gdL_in 30 (by decide +kernel) (by decide +kernel), by decide +kernel, by decide +kernel, by decide +kernel⟩
theorem cs_L_seen : CST yL_seen := gdL_in 629 (by decide +kernel) (by decide +kernel)
theorem ce_X7_seen : CEE yX7_seen cX7_seen 9 (some .int) 4 := ⟨gdL_in 634 (by decide +kernel) (by decide +kernel), gdL_in 31 (by decide +kernel) (by decide +kernel), by decide +kernel, by decide +kernel, by decide +kernel⟩
theorem cv_X7_seen : CVI yX7_seen := ⟨gdL_in 632 (by decide +kernel) (by decide +kernel), gdL_in 633 (by decide +kernel) (by decide +kernel)⟩
theorem lk_RL_70 : LNK RL 70 yX7_seen := Or.inl (gdL_in 631 (by decide +kernel) (by decide +kernel))
theorem ce_L_draw : CEE yL_draw cL_draw 2 (some .int) 2 := ⟨gdL_in 151 (by decide +kernel) (by decide +kernel), gdL_in 30 (by decide +kernel) (by decide +kernel), by decide +kernel, by decide +kernel, by decide +kernel⟩
theorem kc_7 : Cond.constant RL 7 15595823 ∈ gdL := gdL_in 152 (by decide +kernel) (by decide +kernel)
theorem kc_8 : Cond.constant RL 8 2147483647 ∈ gdL := gdL_in 153 (by decide +kernel) (by decide +kernel)
theorem lw_RL_80 : Cond.methodLink RL 80 yL_colour ∈ gdL := gdL_in 344 (by decide +kernel) (by decide +kernel)
theorem kl_83 : Cond.constantLong RL 83 7 ∈ gdL := gdL_in 615 (by decide +kernel) (by decide +kernel)
theorem lw_RL_73 : Cond.methodLink RL 73 yL_repeat ∈ gdL := gdL_in 365 (by decide +kernel) (by decide +kernel)
theorem lw_RL_78 : Cond.methodLink RL 78 yL_repeatAnew ∈ gdL := gdL_in 600 (by decide +kernel) (by decide +kernel)
theorem lw_RL_99 : Cond.methodLink RL 99 yL_lotOf ∈ gdL := gdL_in 449 (by decide +kernel) (by decide +kernel)
theorem lw_RL_90 : Cond.methodLink RL 90 yL_cut ∈ gdL := gdL_in 620 (by decide +kernel) (by decide +kernel)
theorem kl_101 : Cond.constantLong RL 101 1000 ∈ gdL := gdL_in 639 (by decide +kernel) (by decide +kernel)
theorem lw_RL_85 : Cond.methodLink RL 85 yL_room ∈ gdL := gdL_in 581 (by decide +kernel) (by decide +kernel)
theorem cs_L_lotHigh : CST yL_lotHigh := gdL_in 637 (by decide +kernel) (by decide +kernel)
theorem lk_RL_95 : LNK RL 95 yL_lotHigh := Or.inl (gdL_in 636 (by decide +kernel) (by decide +kernel))
theorem ce_L_lotHigh : CEE yL_lotHigh cL_lotHigh 2 (some .long) 2 := ⟨gdL_in 638 (by decide +kernel) (by decide +kernel), gdL_in 30 (by decide +kernel) (by decide +kernel), by decide +kernel, by decide +kernel, by decide +kernel⟩
theorem kl_88 : Cond.constantLong RL 88 (-1) ∈ gdL := gdL_in 619 (by decide +kernel) (by decide +kernel)
theorem lw_RL_92 : Cond.methodLink RL 92 yL_seen ∈ gdL := gdL_in 628 (by decide +kernel) (by decide +kernel)
theorem lw_RL_115 : Cond.methodLink RL 115 yL_wall ∈ gdL := gdL_in 466 (by decide +kernel) (by decide +kernel)
theorem lw_RL_117 : Cond.methodLink RL 117 yL_hang ∈ gdL := gdL_in 508 (by decide +kernel) (by decide +kernel)
theorem lw_RL_119 : Cond.methodLink RL 119 yL_lengthen ∈ gdL := gdL_in 549 (by decide +kernel) (by decide +kernel)
theorem lw_RL_121 : Cond.methodLink RL 121 yL_strip ∈ gdL := gdL_in 574 (by decide +kernel) (by decide +kernel)
theorem ce_X7_lost : CEE yX7_lost cX7_lost 1 (some .int) 0 := ⟨gdL_in 148 (by decide +kernel) (by decide +kernel), gdL_in 31 (by decide +kernel) (by decide +kernel), by decide +kernel, by decide +kernel, by decide +kernel⟩
theorem cv_X7_lost : CVI yX7_lost := ⟨gdL_in 146 (by decide +kernel) (by decide +kernel), gdL_in 147 (by decide +kernel) (by decide +kernel)⟩
theorem lk_RL_103 : LNK RL 103 yX7_lost := Or.inl (gdL_in 145 (by decide +kernel) (by decide +kernel))
theorem lw_RL_107 : Cond.methodLink RL 107 yL_pattern ∈ gdL := gdL_in 154 (by decide +kernel) (by decide +kernel)
theorem lw_RL_109 : Cond.methodLink RL 109 yL_paint ∈ gdL := gdL_in 295 (by decide +kernel) (by decide +kernel)
theorem lw_RL_111 : Cond.methodLink RL 111 yL_roller ∈ gdL := gdL_in 372 (by decide +kernel) (by decide +kernel)
theorem lw_RL_113 : Cond.methodLink RL 113 yL_lot ∈ gdL := gdL_in 404 (by decide +kernel) (by decide +kernel)
theorem cs_L_refuses : CST yL_refuses := gdL_in 641 (by decide +kernel) (by decide +kernel)
theorem lk_RL_136 : LNK RL 136 yL_refuses := Or.inl (gdL_in 640 (by decide +kernel) (by decide +kernel))
theorem ce_L_refuses : CEE yL_refuses cL_refuses 3 (some .boolean) 1 := ⟨gdL_in 642 (by decide +kernel) (by decide +kernel), gdL_in 30 (by decide +kernel) (by decide +kernel), by decide +kernel, by decide +kernel, by decide +kernel⟩
theorem cs_L_roomHolds : CST yL_roomHolds := gdL_in 617 (by decide +kernel) (by decide +kernel)
theorem lk_RL_132 : LNK RL 132 yL_roomHolds := Or.inl (gdL_in 616 (by decide +kernel) (by decide +kernel))
theorem ce_L_roomHolds : CEE yL_roomHolds cL_roomHolds 22 (some .boolean) 3 := ⟨gdL_in 618 (by decide +kernel) (by decide +kernel), gdL_in 30 (by decide +kernel) (by decide +kernel), by decide +kernel, by decide +kernel, by decide +kernel⟩
theorem cs_L_patternHolds : CST yL_patternHolds := gdL_in 598 (by decide +kernel) (by decide +kernel)
theorem lk_RL_128 : LNK RL 128 yL_patternHolds := Or.inl (gdL_in 597 (by decide +kernel) (by decide +kernel))
theorem ce_L_patternHolds : CEE yL_patternHolds cL_patternHolds 16 (some .boolean) 4 := ⟨gdL_in 599 (by decide +kernel) (by decide +kernel), gdL_in 30 (by decide +kernel) (by decide +kernel), by decide +kernel, by decide +kernel, by decide +kernel⟩
theorem cs_L_draw : CST yL_draw := gdL_in 150 (by decide +kernel) (by decide +kernel)
theorem lk_RL_124 : LNK RL 124 yL_draw := Or.inl (gdL_in 149 (by decide +kernel) (by decide +kernel))
theorem nw_7 : NWO 7 RX7 8 [.null, .int 0, .null, .int 0, .null, .int 0, .null, .int 0] := ⟨TX7, tyX7, rfl, lay_7, tyX7_ok, fun j hj => by rcases (show j = 0 ∨ j = 1 ∨ j = 2 ∨ j = 3 ∨ j = 4 ∨ j = 5 ∨ j = 6 ∨ j = 7 by omega) with rfl | rfl | rfl | rfl | rfl | rfl | rfl | rfl <;> rfl, gdL_in 47 (by decide +kernel) (by decide +kernel), gdL_in 31 (by decide +kernel) (by decide +kernel)⟩
theorem cl_RL_10 : Cond.classLink RL 10 RX7 ∈ gdL := gdL_in 46 (by decide +kernel) (by decide +kernel)
theorem ce_X7_init : CEE yX7_init cX7_init 2 none 0 := ⟨gdL_in 50 (by decide +kernel) (by decide +kernel), gdL_in 31 (by decide +kernel) (by decide +kernel), by decide +kernel, by decide +kernel, by decide +kernel⟩
theorem ci_X7_init : CIN yX7_init := ⟨gdL_in 49 (by decide +kernel) (by decide +kernel), rfl⟩
theorem lk_RL_123 : LNK RL 123 yX7_init := Or.inl (gdL_in 48 (by decide +kernel) (by decide +kernel))
def rm_L_pattern : Room := { frames := 8, cells := 6, slots := 125, locals := 136 }
def xl_L_pattern : List (String × Int64) := [("java/lang/IllegalArgumentException", -9000000000000000002), ("java/lang/IllegalStateException", -9000000000000000003)]
def P_L_pattern (a0 : Nat) (x1 : Int32) (x2 : Int32) (x3 : Int32) (hp : hpT) (Q : Int64 → hpT → Prop) : Prop := isP hp a0 7 (wrP xl_L_pattern (F_X7_pattern a0 x1 x2 x3 hp) Q)
set_option maxRecDepth 100000 in
set_option maxHeartbeats 4000000 in
theorem M_L_pattern {D : va_G} {cA : Nat → ClassId} {h0 : Nat} {l : Launch} (hl : l.stackTraces = false) (a0 : Nat) (x1 : Int32) (x2 : Int32) (x3 : Int32) (hp : hpT) (Qp : Int64 → hpT → Prop) (h : P_L_pattern a0 x1 x2 x3 hp Qp) : vx_Met l yL_pattern (wsmW yL_pattern cL_pattern 5 (some .long) [(0, 8, 9, 15), (0, 8, 15, 19)]) rm_L_pattern (va_Pc [va_rf (some a0), .int x1, .int x2, .int x3] (Pre strL D cA h0 hp)) (QLp D cA h0 Qp) (XN h0) 6 125 (Af h0) := by
  obtain ⟨⟨fs, hx7⟩, h⟩ := h
  refine g_entryW (by decide +kernel) hl (cat_c rfl (cat_c rfl (cat_c rfl (cat_c rfl (cat_n))))) (Nat.le_of_ble_eq_true rfl) (lv := [some (va_rf (some a0)), some (.int x1), some (.int x2), some (.int x3), none]) rfl ?_
  intro p e s m args below meth c K hr hT
  have K : Cx strL D cA h0 p l s m args meth c cL_pattern RL 5 := K
  cases hF : F_X7_pattern a0 x1 x2 x3 hp with
  | none => rw [hF] at h; exact h.elim
  | some r1 =>
    rw [hF] at h
    refine r_aload_n (pc := 0) K dL_pattern_0 rfl ?_
    refine r_iload_n (pc := 1) K dL_pattern_1 rfl ?_
    refine r_iload_n (pc := 2) K dL_pattern_2 rfl ?_
    refine r_iload_n (pc := 3) K dL_pattern_3 rfl ?_
    refine c_catch (pc := 4) (st := []) K (run_V (As := [.int x1, .int x2, .int x3]) (b := a0) (ci := 7) (q0 := (RX7, TX7, 8)) K (M_X7_pattern K.2.2.2.2.2.2.1 _ _ _ _ _ _ hF) dL_pattern_4 ce_X7_pattern cv_X7_pattern lk_RL_9 rfl rfl hx7 rfl rfl (by decide) rfl rfl (Nat.le_of_ble_eq_true rfl) (by decide)) (fun E hE => ?_) (fun v hv => ?_)
    · have h1 := wrP_exc h hE
      simp only [xl_L_pattern, wcP] at h1
      by_cases q0 : E = "java/lang/IllegalArgumentException"
      · subst q0
        rw [if_pos rfl] at h1
        refine ⟨[], ⟨0, 8, 9, 15⟩, [⟨0, 8, 15, 19⟩], "java/lang/IllegalArgumentException", hT.trans rfl, (fun z hz => by cases hz), by decide, by decide, cl_RL_15, ca_IllegalArgumentException, fun z q => ?_⟩
        refine r_astore (pc := 9) (lv' := [some (va_rf (some a0)), some (.int x1), some (.int x2), some (.int x3), some (va_rf (some q))]) K dL_pattern_9 (by decide) rfl ?_
        refine r_ldc2 (pc := 11) (v := (-9000000000000000002)) K dL_pattern_11 kl_17 ?_
        exact r_fresh (fun hf9 => r_lretP (pc := 14) K hr dL_pattern_14 (h1 z hf9) (by decide) (by decide))
      · rw [if_neg q0] at h1
        by_cases q1 : E = "java/lang/IllegalStateException"
        · subst q1
          rw [if_pos rfl] at h1
          refine ⟨[⟨0, 8, 9, 15⟩], ⟨0, 8, 15, 19⟩, [], "java/lang/IllegalStateException", hT.trans rfl, (fun z hz => by
              simp only [List.mem_cons, List.not_mem_nil, or_false] at hz
              rcases hz with rfl
              · exact Or.inr ⟨by decide, "java/lang/IllegalArgumentException", cl_RL_15, by decide⟩), by decide, by decide, cl_RL_19, ca_IllegalStateException, fun z q => ?_⟩
          refine r_astore (pc := 15) (lv' := [some (va_rf (some a0)), some (.int x1), some (.int x2), some (.int x3), some (va_rf (some q))]) K dL_pattern_15 (by decide) rfl ?_
          refine r_ldc2 (pc := 17) (v := (-9000000000000000003)) K dL_pattern_17 kl_21 ?_
          exact r_fresh (fun hf9 => r_lretP (pc := 20) K hr dL_pattern_20 (h1 z hf9) (by decide) (by decide))
        · rw [if_neg q1] at h1
          exact h1.elim
    · have h1 := wrP_val h hv
      refine r_i2l (pc := 7) K dL_pattern_7 ?_
      exact r_lretP (pc := 8) K hr dL_pattern_8 h1 (by decide) (by decide)
def rm_L_paint : Room := { frames := 8, cells := 2, slots := 12, locals := 138 }
def xl_L_paint : List (String × Int64) := [("java/lang/IndexOutOfBoundsException", -9000000000000000001), ("java/lang/IllegalArgumentException", -9000000000000000002)]
def P_L_paint (a0 : Nat) (x1 : Int32) (x2 : Int32) (x3 : Int32) (x4 : Int32) (hp : hpT) (Q : Int64 → hpT → Prop) : Prop := isP hp a0 7 (wrP xl_L_paint (F_X7_paint a0 x1 x2 x3 x4 hp) Q)
set_option maxRecDepth 100000 in
set_option maxHeartbeats 4000000 in
theorem M_L_paint {D : va_G} {cA : Nat → ClassId} {h0 : Nat} {l : Launch} (hl : l.stackTraces = false) (a0 : Nat) (x1 : Int32) (x2 : Int32) (x3 : Int32) (x4 : Int32) (hp : hpT) (Qp : Int64 → hpT → Prop) (h : P_L_paint a0 x1 x2 x3 x4 hp Qp) : vx_Met l yL_paint (wsmW yL_paint cL_paint 6 (some .long) [(0, 10, 11, 27), (0, 10, 17, 15)]) rm_L_paint (va_Pc [va_rf (some a0), .int x1, .int x2, .int x3, .int x4] (Pre strL D cA h0 hp)) (QLp D cA h0 Qp) (XN h0) 2 12 (Af h0) := by
  obtain ⟨⟨fs, hx7⟩, h⟩ := h
  refine g_entryW (by decide +kernel) hl (cat_c rfl (cat_c rfl (cat_c rfl (cat_c rfl (cat_c rfl (cat_n)))))) (Nat.le_of_ble_eq_true rfl) (lv := [some (va_rf (some a0)), some (.int x1), some (.int x2), some (.int x3), some (.int x4), none]) rfl ?_
  intro p e s m args below meth c K hr hT
  have K : Cx strL D cA h0 p l s m args meth c cL_paint RL 6 := K
  cases hF : F_X7_paint a0 x1 x2 x3 x4 hp with
  | none => rw [hF] at h; exact h.elim
  | some r1 =>
    rw [hF] at h
    refine r_aload_n (pc := 0) K dL_paint_0 rfl ?_
    refine r_iload_n (pc := 1) K dL_paint_1 rfl ?_
    refine r_iload_n (pc := 2) K dL_paint_2 rfl ?_
    refine r_iload_n (pc := 3) K dL_paint_3 rfl ?_
    refine r_iload (pc := 4) K dL_paint_4 rfl ?_
    refine c_catch (pc := 6) (st := []) K (run_V (As := [.int x1, .int x2, .int x3, .int x4]) (b := a0) (ci := 7) (q0 := (RX7, TX7, 8)) K (M_X7_paint K.2.2.2.2.2.2.1 _ _ _ _ _ _ _ hF) dL_paint_6 ce_X7_paint cv_X7_paint lk_RL_23 rfl rfl hx7 rfl rfl (by decide) rfl rfl (Nat.le_of_ble_eq_true rfl) (by decide)) (fun E hE => ?_) (fun v hv => ?_)
    · have h1 := wrP_exc h hE
      simp only [xl_L_paint, wcP] at h1
      by_cases q0 : E = "java/lang/IndexOutOfBoundsException"
      · subst q0
        rw [if_pos rfl] at h1
        refine ⟨[], ⟨0, 10, 11, 27⟩, [⟨0, 10, 17, 15⟩], "java/lang/IndexOutOfBoundsException", hT.trans rfl, (fun z hz => by cases hz), by decide, by decide, cl_RL_27, ca_IndexOutOfBoundsException, fun z q => ?_⟩
        refine r_astore (pc := 11) (lv' := [some (va_rf (some a0)), some (.int x1), some (.int x2), some (.int x3), some (.int x4), some (va_rf (some q))]) K dL_paint_11 (by decide) rfl ?_
        refine r_ldc2 (pc := 13) (v := (-9000000000000000001)) K dL_paint_13 kl_29 ?_
        exact r_fresh (fun hf9 => r_lretP (pc := 16) K hr dL_paint_16 (h1 z hf9) (by decide) (by decide))
      · rw [if_neg q0] at h1
        by_cases q1 : E = "java/lang/IllegalArgumentException"
        · subst q1
          rw [if_pos rfl] at h1
          refine ⟨[⟨0, 10, 11, 27⟩], ⟨0, 10, 17, 15⟩, [], "java/lang/IllegalArgumentException", hT.trans rfl, (fun z hz => by
              simp only [List.mem_cons, List.not_mem_nil, or_false] at hz
              rcases hz with rfl
              · exact Or.inr ⟨by decide, "java/lang/IndexOutOfBoundsException", cl_RL_27, by decide⟩), by decide, by decide, cl_RL_15, ca_IllegalArgumentException, fun z q => ?_⟩
          refine r_astore (pc := 17) (lv' := [some (va_rf (some a0)), some (.int x1), some (.int x2), some (.int x3), some (.int x4), some (va_rf (some q))]) K dL_paint_17 (by decide) rfl ?_
          refine r_ldc2 (pc := 19) (v := (-9000000000000000002)) K dL_paint_19 kl_17 ?_
          exact r_fresh (fun hf9 => r_lretP (pc := 22) K hr dL_paint_22 (h1 z hf9) (by decide) (by decide))
        · rw [if_neg q1] at h1
          exact h1.elim
    · have h1 := wrP_val h hv
      refine r_i2l (pc := 9) K dL_paint_9 ?_
      exact r_lretP (pc := 10) K hr dL_paint_10 h1 (by decide) (by decide)
def rm_L_colour : Room := { frames := 8, cells := 1, slots := 6, locals := 135 }
def xl_L_colour : List (String × Int64) := [("java/lang/IndexOutOfBoundsException", -9000000000000000001)]
def P_L_colour (a0 : Nat) (x1 : Int32) (x2 : Int32) (x3 : Int32) (hp : hpT) (Q : Int64 → hpT → Prop) : Prop := isP hp a0 7 (wrP xl_L_colour (F_X7_colour a0 x1 x2 x3 hp) Q)
set_option maxRecDepth 100000 in
set_option maxHeartbeats 4000000 in
theorem M_L_colour {D : va_G} {cA : Nat → ClassId} {h0 : Nat} {l : Launch} (hl : l.stackTraces = false) (a0 : Nat) (x1 : Int32) (x2 : Int32) (x3 : Int32) (hp : hpT) (Qp : Int64 → hpT → Prop) (h : P_L_colour a0 x1 x2 x3 hp Qp) : vx_Met l yL_colour (wsmW yL_colour cL_colour 5 (some .long) [(0, 8, 9, 27)]) rm_L_colour (va_Pc [va_rf (some a0), .int x1, .int x2, .int x3] (Pre strL D cA h0 hp)) (QLp D cA h0 Qp) (XN h0) 1 6 (Af h0) := by
  obtain ⟨⟨fs, hx7⟩, h⟩ := h
  refine g_entryW (by decide +kernel) hl (cat_c rfl (cat_c rfl (cat_c rfl (cat_c rfl (cat_n))))) (Nat.le_of_ble_eq_true rfl) (lv := [some (va_rf (some a0)), some (.int x1), some (.int x2), some (.int x3), none]) rfl ?_
  intro p e s m args below meth c K hr hT
  have K : Cx strL D cA h0 p l s m args meth c cL_colour RL 5 := K
  cases hF : F_X7_colour a0 x1 x2 x3 hp with
  | none => rw [hF] at h; exact h.elim
  | some r1 =>
    rw [hF] at h
    refine r_aload_n (pc := 0) K dL_colour_0 rfl ?_
    refine r_iload_n (pc := 1) K dL_colour_1 rfl ?_
    refine r_iload_n (pc := 2) K dL_colour_2 rfl ?_
    refine r_iload_n (pc := 3) K dL_colour_3 rfl ?_
    refine c_catch (pc := 4) (st := []) K (run_V (As := [.int x1, .int x2, .int x3]) (b := a0) (ci := 7) (q0 := (RX7, TX7, 8)) K (M_X7_colour K.2.2.2.2.2.2.1 _ _ _ _ _ _ hF) dL_colour_4 ce_X7_colour cv_X7_colour lk_RL_31 rfl rfl hx7 rfl rfl (by decide) rfl rfl (Nat.le_of_ble_eq_true rfl) (by decide)) (fun E hE => ?_) (fun v hv => ?_)
    · have h1 := wrP_exc h hE
      simp only [xl_L_colour, wcP] at h1
      by_cases q0 : E = "java/lang/IndexOutOfBoundsException"
      · subst q0
        rw [if_pos rfl] at h1
        refine ⟨[], ⟨0, 8, 9, 27⟩, [], "java/lang/IndexOutOfBoundsException", hT.trans rfl, (fun z hz => by cases hz), by decide, by decide, cl_RL_27, ca_IndexOutOfBoundsException, fun z q => ?_⟩
        refine r_astore (pc := 9) (lv' := [some (va_rf (some a0)), some (.int x1), some (.int x2), some (.int x3), some (va_rf (some q))]) K dL_colour_9 (by decide) rfl ?_
        refine r_ldc2 (pc := 11) (v := (-9000000000000000001)) K dL_colour_11 kl_29 ?_
        exact r_fresh (fun hf9 => r_lretP (pc := 14) K hr dL_colour_14 (h1 z hf9) (by decide) (by decide))
      · rw [if_neg q0] at h1
        exact h1.elim
    · have h1 := wrP_val h hv
      refine r_i2l (pc := 7) K dL_colour_7 ?_
      exact r_lretP (pc := 8) K hr dL_colour_8 h1 (by decide) (by decide)
def rm_L_repeat : Room := { frames := 8, cells := 1, slots := 6, locals := 135 }
def xl_L_repeat : List (String × Int64) := [("java/lang/IndexOutOfBoundsException", -9000000000000000001)]
def P_L_repeat (a0 : Nat) (x1 : Int32) (x2 : Int32) (hp : hpT) (Q : Int64 → hpT → Prop) : Prop := isP hp a0 7 (wrP xl_L_repeat (F_X7_repeat a0 x1 x2 hp) Q)
set_option maxRecDepth 100000 in
set_option maxHeartbeats 4000000 in
theorem M_L_repeat {D : va_G} {cA : Nat → ClassId} {h0 : Nat} {l : Launch} (hl : l.stackTraces = false) (a0 : Nat) (x1 : Int32) (x2 : Int32) (hp : hpT) (Qp : Int64 → hpT → Prop) (h : P_L_repeat a0 x1 x2 hp Qp) : vx_Met l yL_repeat (wsmW yL_repeat cL_repeat 4 (some .long) [(0, 7, 8, 27)]) rm_L_repeat (va_Pc [va_rf (some a0), .int x1, .int x2] (Pre strL D cA h0 hp)) (QLp D cA h0 Qp) (XN h0) 1 6 (Af h0) := by
  obtain ⟨⟨fs, hx7⟩, h⟩ := h
  refine g_entryW (by decide +kernel) hl (cat_c rfl (cat_c rfl (cat_c rfl (cat_n)))) (Nat.le_of_ble_eq_true rfl) (lv := [some (va_rf (some a0)), some (.int x1), some (.int x2), none]) rfl ?_
  intro p e s m args below meth c K hr hT
  have K : Cx strL D cA h0 p l s m args meth c cL_repeat RL 4 := K
  cases hF : F_X7_repeat a0 x1 x2 hp with
  | none => rw [hF] at h; exact h.elim
  | some r1 =>
    rw [hF] at h
    refine r_aload_n (pc := 0) K dL_repeat_0 rfl ?_
    refine r_iload_n (pc := 1) K dL_repeat_1 rfl ?_
    refine r_iload_n (pc := 2) K dL_repeat_2 rfl ?_
    refine c_catch (pc := 3) (st := []) K (run_V (As := [.int x1, .int x2]) (b := a0) (ci := 7) (q0 := (RX7, TX7, 8)) K (M_X7_repeat K.2.2.2.2.2.2.1 _ _ _ _ _ hF) dL_repeat_3 ce_X7_repeat cv_X7_repeat lk_RL_34 rfl rfl hx7 rfl rfl (by decide) rfl rfl (Nat.le_of_ble_eq_true rfl) (by decide)) (fun E hE => ?_) (fun v hv => ?_)
    · have h1 := wrP_exc h hE
      simp only [xl_L_repeat, wcP] at h1
      by_cases q0 : E = "java/lang/IndexOutOfBoundsException"
      · subst q0
        rw [if_pos rfl] at h1
        refine ⟨[], ⟨0, 7, 8, 27⟩, [], "java/lang/IndexOutOfBoundsException", hT.trans rfl, (fun z hz => by cases hz), by decide, by decide, cl_RL_27, ca_IndexOutOfBoundsException, fun z q => ?_⟩
        refine r_astore_n (pc := 8) (lv' := [some (va_rf (some a0)), some (.int x1), some (.int x2), some (va_rf (some q))]) K dL_repeat_8 (by decide) rfl ?_
        refine r_ldc2 (pc := 9) (v := (-9000000000000000001)) K dL_repeat_9 kl_29 ?_
        exact r_fresh (fun hf9 => r_lretP (pc := 12) K hr dL_repeat_12 (h1 z hf9) (by decide) (by decide))
      · rw [if_neg q0] at h1
        exact h1.elim
    · have h1 := wrP_val h hv
      refine r_i2l (pc := 6) K dL_repeat_6 ?_
      exact r_lretP (pc := 7) K hr dL_repeat_7 h1 (by decide) (by decide)
def rm_L_repeatAnew : Room := { frames := 8, cells := 1, slots := 6, locals := 163 }
def xl_L_repeatAnew : List (String × Int64) := [("java/lang/IndexOutOfBoundsException", -9000000000000000001)]
def P_L_repeatAnew (a0 : Nat) (x1 : Int32) (x2 : Int32) (hp : hpT) (Q : Int64 → hpT → Prop) : Prop := isP hp a0 7 (wrP xl_L_repeatAnew (F_X7_repeatAnew a0 x1 x2 hp) Q)
set_option maxRecDepth 100000 in
set_option maxHeartbeats 4000000 in
theorem M_L_repeatAnew {D : va_G} {cA : Nat → ClassId} {h0 : Nat} {l : Launch} (hl : l.stackTraces = false) (a0 : Nat) (x1 : Int32) (x2 : Int32) (hp : hpT) (Qp : Int64 → hpT → Prop) (h : P_L_repeatAnew a0 x1 x2 hp Qp) : vx_Met l yL_repeatAnew (wsmW yL_repeatAnew cL_repeatAnew 4 (some .long) [(0, 7, 8, 27)]) rm_L_repeatAnew (va_Pc [va_rf (some a0), .int x1, .int x2] (Pre strL D cA h0 hp)) (QLp D cA h0 Qp) (XN h0) 1 6 (Af h0) := by
  obtain ⟨⟨fs, hx7⟩, h⟩ := h
  refine g_entryW (by decide +kernel) hl (cat_c rfl (cat_c rfl (cat_c rfl (cat_n)))) (Nat.le_of_ble_eq_true rfl) (lv := [some (va_rf (some a0)), some (.int x1), some (.int x2), none]) rfl ?_
  intro p e s m args below meth c K hr hT
  have K : Cx strL D cA h0 p l s m args meth c cL_repeatAnew RL 4 := K
  cases hF : F_X7_repeatAnew a0 x1 x2 hp with
  | none => rw [hF] at h; exact h.elim
  | some r1 =>
    rw [hF] at h
    refine r_aload_n (pc := 0) K dL_repeatAnew_0 rfl ?_
    refine r_iload_n (pc := 1) K dL_repeatAnew_1 rfl ?_
    refine r_iload_n (pc := 2) K dL_repeatAnew_2 rfl ?_
    refine c_catch (pc := 3) (st := []) K (run_V (As := [.int x1, .int x2]) (b := a0) (ci := 7) (q0 := (RX7, TX7, 8)) K (M_X7_repeatAnew K.2.2.2.2.2.2.1 _ _ _ _ _ hF) dL_repeatAnew_3 ce_X7_repeatAnew cv_X7_repeatAnew lk_RL_38 rfl rfl hx7 rfl rfl (by decide) rfl rfl (Nat.le_of_ble_eq_true rfl) (by decide)) (fun E hE => ?_) (fun v hv => ?_)
    · have h1 := wrP_exc h hE
      simp only [xl_L_repeatAnew, wcP] at h1
      by_cases q0 : E = "java/lang/IndexOutOfBoundsException"
      · subst q0
        rw [if_pos rfl] at h1
        refine ⟨[], ⟨0, 7, 8, 27⟩, [], "java/lang/IndexOutOfBoundsException", hT.trans rfl, (fun z hz => by cases hz), by decide, by decide, cl_RL_27, ca_IndexOutOfBoundsException, fun z q => ?_⟩
        refine r_astore_n (pc := 8) (lv' := [some (va_rf (some a0)), some (.int x1), some (.int x2), some (va_rf (some q))]) K dL_repeatAnew_8 (by decide) rfl ?_
        refine r_ldc2 (pc := 9) (v := (-9000000000000000001)) K dL_repeatAnew_9 kl_29 ?_
        exact r_fresh (fun hf9 => r_lretP (pc := 12) K hr dL_repeatAnew_12 (h1 z hf9) (by decide) (by decide))
      · rw [if_neg q0] at h1
        exact h1.elim
    · have h1 := wrP_val h hv
      refine r_i2l (pc := 6) K dL_repeatAnew_6 ?_
      exact r_lretP (pc := 7) K hr dL_repeatAnew_7 h1 (by decide) (by decide)
def rm_L_roller : Room := { frames := 8, cells := 5, slots := 117, locals := 141 }
def xl_L_roller : List (String × Int64) := [("java/lang/IndexOutOfBoundsException", -9000000000000000001), ("java/lang/IllegalArgumentException", -9000000000000000002), ("java/lang/IllegalStateException", -9000000000000000003)]
def P_L_roller (a0 : Nat) (x1 : Int32) (x2 : Int32) (hp : hpT) (Q : Int64 → hpT → Prop) : Prop := isP hp a0 7 (wrP xl_L_roller (F_X7_roller a0 x1 x2 hp) Q)
set_option maxRecDepth 100000 in
set_option maxHeartbeats 4000000 in
theorem M_L_roller {D : va_G} {cA : Nat → ClassId} {h0 : Nat} {l : Launch} (hl : l.stackTraces = false) (a0 : Nat) (x1 : Int32) (x2 : Int32) (hp : hpT) (Qp : Int64 → hpT → Prop) (h : P_L_roller a0 x1 x2 hp Qp) : vx_Met l yL_roller (wsmW yL_roller cL_roller 4 (some .long) [(0, 7, 8, 27), (0, 7, 13, 15), (0, 7, 18, 19)]) rm_L_roller (va_Pc [va_rf (some a0), .int x1, .int x2] (Pre strL D cA h0 hp)) (QLp D cA h0 Qp) (XN h0) 5 117 (Af h0) := by
  obtain ⟨⟨fs, hx7⟩, h⟩ := h
  refine g_entryW (by decide +kernel) hl (cat_c rfl (cat_c rfl (cat_c rfl (cat_n)))) (Nat.le_of_ble_eq_true rfl) (lv := [some (va_rf (some a0)), some (.int x1), some (.int x2), none]) rfl ?_
  intro p e s m args below meth c K hr hT
  have K : Cx strL D cA h0 p l s m args meth c cL_roller RL 4 := K
  cases hF : F_X7_roller a0 x1 x2 hp with
  | none => rw [hF] at h; exact h.elim
  | some r1 =>
    rw [hF] at h
    refine r_aload_n (pc := 0) K dL_roller_0 rfl ?_
    refine r_iload_n (pc := 1) K dL_roller_1 rfl ?_
    refine r_iload_n (pc := 2) K dL_roller_2 rfl ?_
    refine c_catch (pc := 3) (st := []) K (run_V (As := [.int x1, .int x2]) (b := a0) (ci := 7) (q0 := (RX7, TX7, 8)) K (M_X7_roller K.2.2.2.2.2.2.1 _ _ _ _ _ hF) dL_roller_3 ce_X7_roller cv_X7_roller lk_RL_41 rfl rfl hx7 rfl rfl (by decide) rfl rfl (Nat.le_of_ble_eq_true rfl) (by decide)) (fun E hE => ?_) (fun v hv => ?_)
    · have h1 := wrP_exc h hE
      simp only [xl_L_roller, wcP] at h1
      by_cases q0 : E = "java/lang/IndexOutOfBoundsException"
      · subst q0
        rw [if_pos rfl] at h1
        refine ⟨[], ⟨0, 7, 8, 27⟩, [⟨0, 7, 13, 15⟩, ⟨0, 7, 18, 19⟩], "java/lang/IndexOutOfBoundsException", hT.trans rfl, (fun z hz => by cases hz), by decide, by decide, cl_RL_27, ca_IndexOutOfBoundsException, fun z q => ?_⟩
        refine r_astore_n (pc := 8) (lv' := [some (va_rf (some a0)), some (.int x1), some (.int x2), some (va_rf (some q))]) K dL_roller_8 (by decide) rfl ?_
        refine r_ldc2 (pc := 9) (v := (-9000000000000000001)) K dL_roller_9 kl_29 ?_
        exact r_fresh (fun hf9 => r_lretP (pc := 12) K hr dL_roller_12 (h1 z hf9) (by decide) (by decide))
      · rw [if_neg q0] at h1
        by_cases q1 : E = "java/lang/IllegalArgumentException"
        · subst q1
          rw [if_pos rfl] at h1
          refine ⟨[⟨0, 7, 8, 27⟩], ⟨0, 7, 13, 15⟩, [⟨0, 7, 18, 19⟩], "java/lang/IllegalArgumentException", hT.trans rfl, (fun z hz => by
              simp only [List.mem_cons, List.not_mem_nil, or_false] at hz
              rcases hz with rfl
              · exact Or.inr ⟨by decide, "java/lang/IndexOutOfBoundsException", cl_RL_27, by decide⟩), by decide, by decide, cl_RL_15, ca_IllegalArgumentException, fun z q => ?_⟩
          refine r_astore_n (pc := 13) (lv' := [some (va_rf (some a0)), some (.int x1), some (.int x2), some (va_rf (some q))]) K dL_roller_13 (by decide) rfl ?_
          refine r_ldc2 (pc := 14) (v := (-9000000000000000002)) K dL_roller_14 kl_17 ?_
          exact r_fresh (fun hf9 => r_lretP (pc := 17) K hr dL_roller_17 (h1 z hf9) (by decide) (by decide))
        · rw [if_neg q1] at h1
          by_cases q2 : E = "java/lang/IllegalStateException"
          · subst q2
            rw [if_pos rfl] at h1
            refine ⟨[⟨0, 7, 8, 27⟩, ⟨0, 7, 13, 15⟩], ⟨0, 7, 18, 19⟩, [], "java/lang/IllegalStateException", hT.trans rfl, (fun z hz => by
                simp only [List.mem_cons, List.not_mem_nil, or_false] at hz
                rcases hz with rfl | rfl
                · exact Or.inr ⟨by decide, "java/lang/IndexOutOfBoundsException", cl_RL_27, by decide⟩
                · exact Or.inr ⟨by decide, "java/lang/IllegalArgumentException", cl_RL_15, by decide⟩), by decide, by decide, cl_RL_19, ca_IllegalStateException, fun z q => ?_⟩
            refine r_astore_n (pc := 18) (lv' := [some (va_rf (some a0)), some (.int x1), some (.int x2), some (va_rf (some q))]) K dL_roller_18 (by decide) rfl ?_
            refine r_ldc2 (pc := 19) (v := (-9000000000000000003)) K dL_roller_19 kl_21 ?_
            exact r_fresh (fun hf9 => r_lretP (pc := 22) K hr dL_roller_22 (h1 z hf9) (by decide) (by decide))
          · rw [if_neg q2] at h1
            exact h1.elim
    · have h1 := wrP_val h hv
      refine r_i2l (pc := 6) K dL_roller_6 ?_
      exact r_lretP (pc := 7) K hr dL_roller_7 h1 (by decide) (by decide)
def rm_L_lot : Room := { frames := 8, cells := 5, slots := 30, locals := 138 }
def xl_L_lot : List (String × Int64) := [("java/lang/IndexOutOfBoundsException", -9000000000000000001), ("java/lang/IllegalArgumentException", -9000000000000000002), ("java/lang/IllegalStateException", -9000000000000000003)]
def P_L_lot (a0 : Nat) (x1 : Int32) (x2 : Int32) (x3 : Int32) (x4 : Int32) (hp : hpT) (Q : Int64 → hpT → Prop) : Prop := isP hp a0 7 (wrP xl_L_lot (F_X7_lot a0 x1 x2 x3 x4 hp) Q)
set_option maxRecDepth 100000 in
set_option maxHeartbeats 4000000 in
theorem M_L_lot {D : va_G} {cA : Nat → ClassId} {h0 : Nat} {l : Launch} (hl : l.stackTraces = false) (a0 : Nat) (x1 : Int32) (x2 : Int32) (x3 : Int32) (x4 : Int32) (hp : hpT) (Qp : Int64 → hpT → Prop) (h : P_L_lot a0 x1 x2 x3 x4 hp Qp) : vx_Met l yL_lot (wsmW yL_lot cL_lot 6 (some .long) [(0, 10, 11, 27), (0, 10, 17, 15), (0, 10, 23, 19)]) rm_L_lot (va_Pc [va_rf (some a0), .int x1, .int x2, .int x3, .int x4] (Pre strL D cA h0 hp)) (QLp D cA h0 Qp) (XN h0) 5 30 (Af h0) := by
  obtain ⟨⟨fs, hx7⟩, h⟩ := h
  refine g_entryW (by decide +kernel) hl (cat_c rfl (cat_c rfl (cat_c rfl (cat_c rfl (cat_c rfl (cat_n)))))) (Nat.le_of_ble_eq_true rfl) (lv := [some (va_rf (some a0)), some (.int x1), some (.int x2), some (.int x3), some (.int x4), none]) rfl ?_
  intro p e s m args below meth c K hr hT
  have K : Cx strL D cA h0 p l s m args meth c cL_lot RL 6 := K
  cases hF : F_X7_lot a0 x1 x2 x3 x4 hp with
  | none => rw [hF] at h; exact h.elim
  | some r1 =>
    rw [hF] at h
    refine r_aload_n (pc := 0) K dL_lot_0 rfl ?_
    refine r_iload_n (pc := 1) K dL_lot_1 rfl ?_
    refine r_iload_n (pc := 2) K dL_lot_2 rfl ?_
    refine r_iload_n (pc := 3) K dL_lot_3 rfl ?_
    refine r_iload (pc := 4) K dL_lot_4 rfl ?_
    refine c_catch (pc := 6) (st := []) K (run_V (As := [.int x1, .int x2, .int x3, .int x4]) (b := a0) (ci := 7) (q0 := (RX7, TX7, 8)) K (M_X7_lot K.2.2.2.2.2.2.1 _ _ _ _ _ _ _ hF) dL_lot_6 ce_X7_lot cv_X7_lot lk_RL_45 rfl rfl hx7 rfl rfl (by decide) rfl rfl (Nat.le_of_ble_eq_true rfl) (by decide)) (fun E hE => ?_) (fun v hv => ?_)
    · have h1 := wrP_exc h hE
      simp only [xl_L_lot, wcP] at h1
      by_cases q0 : E = "java/lang/IndexOutOfBoundsException"
      · subst q0
        rw [if_pos rfl] at h1
        refine ⟨[], ⟨0, 10, 11, 27⟩, [⟨0, 10, 17, 15⟩, ⟨0, 10, 23, 19⟩], "java/lang/IndexOutOfBoundsException", hT.trans rfl, (fun z hz => by cases hz), by decide, by decide, cl_RL_27, ca_IndexOutOfBoundsException, fun z q => ?_⟩
        refine r_astore (pc := 11) (lv' := [some (va_rf (some a0)), some (.int x1), some (.int x2), some (.int x3), some (.int x4), some (va_rf (some q))]) K dL_lot_11 (by decide) rfl ?_
        refine r_ldc2 (pc := 13) (v := (-9000000000000000001)) K dL_lot_13 kl_29 ?_
        exact r_fresh (fun hf9 => r_lretP (pc := 16) K hr dL_lot_16 (h1 z hf9) (by decide) (by decide))
      · rw [if_neg q0] at h1
        by_cases q1 : E = "java/lang/IllegalArgumentException"
        · subst q1
          rw [if_pos rfl] at h1
          refine ⟨[⟨0, 10, 11, 27⟩], ⟨0, 10, 17, 15⟩, [⟨0, 10, 23, 19⟩], "java/lang/IllegalArgumentException", hT.trans rfl, (fun z hz => by
              simp only [List.mem_cons, List.not_mem_nil, or_false] at hz
              rcases hz with rfl
              · exact Or.inr ⟨by decide, "java/lang/IndexOutOfBoundsException", cl_RL_27, by decide⟩), by decide, by decide, cl_RL_15, ca_IllegalArgumentException, fun z q => ?_⟩
          refine r_astore (pc := 17) (lv' := [some (va_rf (some a0)), some (.int x1), some (.int x2), some (.int x3), some (.int x4), some (va_rf (some q))]) K dL_lot_17 (by decide) rfl ?_
          refine r_ldc2 (pc := 19) (v := (-9000000000000000002)) K dL_lot_19 kl_17 ?_
          exact r_fresh (fun hf9 => r_lretP (pc := 22) K hr dL_lot_22 (h1 z hf9) (by decide) (by decide))
        · rw [if_neg q1] at h1
          by_cases q2 : E = "java/lang/IllegalStateException"
          · subst q2
            rw [if_pos rfl] at h1
            refine ⟨[⟨0, 10, 11, 27⟩, ⟨0, 10, 17, 15⟩], ⟨0, 10, 23, 19⟩, [], "java/lang/IllegalStateException", hT.trans rfl, (fun z hz => by
                simp only [List.mem_cons, List.not_mem_nil, or_false] at hz
                rcases hz with rfl | rfl
                · exact Or.inr ⟨by decide, "java/lang/IndexOutOfBoundsException", cl_RL_27, by decide⟩
                · exact Or.inr ⟨by decide, "java/lang/IllegalArgumentException", cl_RL_15, by decide⟩), by decide, by decide, cl_RL_19, ca_IllegalStateException, fun z q => ?_⟩
            refine r_astore (pc := 23) (lv' := [some (va_rf (some a0)), some (.int x1), some (.int x2), some (.int x3), some (.int x4), some (va_rf (some q))]) K dL_lot_23 (by decide) rfl ?_
            refine r_ldc2 (pc := 25) (v := (-9000000000000000003)) K dL_lot_25 kl_21 ?_
            exact r_fresh (fun hf9 => r_lretP (pc := 28) K hr dL_lot_28 (h1 z hf9) (by decide) (by decide))
          · rw [if_neg q2] at h1
            exact h1.elim
    · have h1 := wrP_val h hv
      refine r_i2l (pc := 9) K dL_lot_9 ?_
      exact r_lretP (pc := 10) K hr dL_lot_10 h1 (by decide) (by decide)
def rm_L_lotOf : Room := { frames := 8, cells := 2, slots := 12, locals := 135 }
def xl_L_lotOf : List (String × Int64) := [("java/lang/IndexOutOfBoundsException", -9000000000000000001), ("java/lang/IllegalArgumentException", -9000000000000000002)]
def P_L_lotOf (a0 : Nat) (x1 : Int32) (x2 : Int32) (hp : hpT) (Q : Int64 → hpT → Prop) : Prop := isP hp a0 7 (wrP xl_L_lotOf (F_X7_lotOf a0 x1 x2 hp) Q)
set_option maxRecDepth 100000 in
set_option maxHeartbeats 4000000 in
theorem M_L_lotOf {D : va_G} {cA : Nat → ClassId} {h0 : Nat} {l : Launch} (hl : l.stackTraces = false) (a0 : Nat) (x1 : Int32) (x2 : Int32) (hp : hpT) (Qp : Int64 → hpT → Prop) (h : P_L_lotOf a0 x1 x2 hp Qp) : vx_Met l yL_lotOf (wsmW yL_lotOf cL_lotOf 4 (some .long) [(0, 7, 8, 27), (0, 7, 13, 15)]) rm_L_lotOf (va_Pc [va_rf (some a0), .int x1, .int x2] (Pre strL D cA h0 hp)) (QLp D cA h0 Qp) (XN h0) 2 12 (Af h0) := by
  obtain ⟨⟨fs, hx7⟩, h⟩ := h
  refine g_entryW (by decide +kernel) hl (cat_c rfl (cat_c rfl (cat_c rfl (cat_n)))) (Nat.le_of_ble_eq_true rfl) (lv := [some (va_rf (some a0)), some (.int x1), some (.int x2), none]) rfl ?_
  intro p e s m args below meth c K hr hT
  have K : Cx strL D cA h0 p l s m args meth c cL_lotOf RL 4 := K
  cases hF : F_X7_lotOf a0 x1 x2 hp with
  | none => rw [hF] at h; exact h.elim
  | some r1 =>
    rw [hF] at h
    refine r_aload_n (pc := 0) K dL_lotOf_0 rfl ?_
    refine r_iload_n (pc := 1) K dL_lotOf_1 rfl ?_
    refine r_iload_n (pc := 2) K dL_lotOf_2 rfl ?_
    refine c_catch (pc := 3) (st := []) K (run_V (As := [.int x1, .int x2]) (b := a0) (ci := 7) (q0 := (RX7, TX7, 8)) K (M_X7_lotOf K.2.2.2.2.2.2.1 _ _ _ _ _ hF) dL_lotOf_3 ce_X7_lotOf cv_X7_lotOf lk_RL_48 rfl rfl hx7 rfl rfl (by decide) rfl rfl (Nat.le_of_ble_eq_true rfl) (by decide)) (fun E hE => ?_) (fun v hv => ?_)
    · have h1 := wrP_exc h hE
      simp only [xl_L_lotOf, wcP] at h1
      by_cases q0 : E = "java/lang/IndexOutOfBoundsException"
      · subst q0
        rw [if_pos rfl] at h1
        refine ⟨[], ⟨0, 7, 8, 27⟩, [⟨0, 7, 13, 15⟩], "java/lang/IndexOutOfBoundsException", hT.trans rfl, (fun z hz => by cases hz), by decide, by decide, cl_RL_27, ca_IndexOutOfBoundsException, fun z q => ?_⟩
        refine r_astore_n (pc := 8) (lv' := [some (va_rf (some a0)), some (.int x1), some (.int x2), some (va_rf (some q))]) K dL_lotOf_8 (by decide) rfl ?_
        refine r_ldc2 (pc := 9) (v := (-9000000000000000001)) K dL_lotOf_9 kl_29 ?_
        exact r_fresh (fun hf9 => r_lretP (pc := 12) K hr dL_lotOf_12 (h1 z hf9) (by decide) (by decide))
      · rw [if_neg q0] at h1
        by_cases q1 : E = "java/lang/IllegalArgumentException"
        · subst q1
          rw [if_pos rfl] at h1
          refine ⟨[⟨0, 7, 8, 27⟩], ⟨0, 7, 13, 15⟩, [], "java/lang/IllegalArgumentException", hT.trans rfl, (fun z hz => by
              simp only [List.mem_cons, List.not_mem_nil, or_false] at hz
              rcases hz with rfl
              · exact Or.inr ⟨by decide, "java/lang/IndexOutOfBoundsException", cl_RL_27, by decide⟩), by decide, by decide, cl_RL_15, ca_IllegalArgumentException, fun z q => ?_⟩
          refine r_astore_n (pc := 13) (lv' := [some (va_rf (some a0)), some (.int x1), some (.int x2), some (va_rf (some q))]) K dL_lotOf_13 (by decide) rfl ?_
          refine r_ldc2 (pc := 14) (v := (-9000000000000000002)) K dL_lotOf_14 kl_17 ?_
          exact r_fresh (fun hf9 => r_lretP (pc := 17) K hr dL_lotOf_17 (h1 z hf9) (by decide) (by decide))
        · rw [if_neg q1] at h1
          exact h1.elim
    · have h1 := wrP_val h hv
      refine r_i2l (pc := 6) K dL_lotOf_6 ?_
      exact r_lretP (pc := 7) K hr dL_lotOf_7 h1 (by decide) (by decide)
def rm_L_wall : Room := { frames := 8, cells := 6, slots := 51, locals := 137 }
def xl_L_wall : List (String × Int64) := [("java/lang/IndexOutOfBoundsException", -9000000000000000001), ("java/lang/IllegalArgumentException", -9000000000000000002), ("java/lang/IllegalStateException", -9000000000000000003)]
def P_L_wall (a0 : Nat) (x1 : Int32) (x2 : Int32) (x3 : Int32) (hp : hpT) (Q : Int64 → hpT → Prop) : Prop := isP hp a0 7 (wrP xl_L_wall (F_X7_wall a0 x1 x2 x3 hp) Q)
set_option maxRecDepth 100000 in
set_option maxHeartbeats 4000000 in
theorem M_L_wall {D : va_G} {cA : Nat → ClassId} {h0 : Nat} {l : Launch} (hl : l.stackTraces = false) (a0 : Nat) (x1 : Int32) (x2 : Int32) (x3 : Int32) (hp : hpT) (Qp : Int64 → hpT → Prop) (h : P_L_wall a0 x1 x2 x3 hp Qp) : vx_Met l yL_wall (wsmW yL_wall cL_wall 5 (some .long) [(0, 8, 9, 27), (0, 8, 15, 15), (0, 8, 21, 19)]) rm_L_wall (va_Pc [va_rf (some a0), .int x1, .int x2, .int x3] (Pre strL D cA h0 hp)) (QLp D cA h0 Qp) (XN h0) 6 51 (Af h0) := by
  obtain ⟨⟨fs, hx7⟩, h⟩ := h
  refine g_entryW (by decide +kernel) hl (cat_c rfl (cat_c rfl (cat_c rfl (cat_c rfl (cat_n))))) (Nat.le_of_ble_eq_true rfl) (lv := [some (va_rf (some a0)), some (.int x1), some (.int x2), some (.int x3), none]) rfl ?_
  intro p e s m args below meth c K hr hT
  have K : Cx strL D cA h0 p l s m args meth c cL_wall RL 5 := K
  cases hF : F_X7_wall a0 x1 x2 x3 hp with
  | none => rw [hF] at h; exact h.elim
  | some r1 =>
    rw [hF] at h
    refine r_aload_n (pc := 0) K dL_wall_0 rfl ?_
    refine r_iload_n (pc := 1) K dL_wall_1 rfl ?_
    refine r_iload_n (pc := 2) K dL_wall_2 rfl ?_
    refine r_iload_n (pc := 3) K dL_wall_3 rfl ?_
    refine c_catch (pc := 4) (st := []) K (run_V (As := [.int x1, .int x2, .int x3]) (b := a0) (ci := 7) (q0 := (RX7, TX7, 8)) K (M_X7_wall K.2.2.2.2.2.2.1 _ _ _ _ _ _ hF) dL_wall_4 ce_X7_wall cv_X7_wall lk_RL_51 rfl rfl hx7 rfl rfl (by decide) rfl rfl (Nat.le_of_ble_eq_true rfl) (by decide)) (fun E hE => ?_) (fun v hv => ?_)
    · have h1 := wrP_exc h hE
      simp only [xl_L_wall, wcP] at h1
      by_cases q0 : E = "java/lang/IndexOutOfBoundsException"
      · subst q0
        rw [if_pos rfl] at h1
        refine ⟨[], ⟨0, 8, 9, 27⟩, [⟨0, 8, 15, 15⟩, ⟨0, 8, 21, 19⟩], "java/lang/IndexOutOfBoundsException", hT.trans rfl, (fun z hz => by cases hz), by decide, by decide, cl_RL_27, ca_IndexOutOfBoundsException, fun z q => ?_⟩
        refine r_astore (pc := 9) (lv' := [some (va_rf (some a0)), some (.int x1), some (.int x2), some (.int x3), some (va_rf (some q))]) K dL_wall_9 (by decide) rfl ?_
        refine r_ldc2 (pc := 11) (v := (-9000000000000000001)) K dL_wall_11 kl_29 ?_
        exact r_fresh (fun hf9 => r_lretP (pc := 14) K hr dL_wall_14 (h1 z hf9) (by decide) (by decide))
      · rw [if_neg q0] at h1
        by_cases q1 : E = "java/lang/IllegalArgumentException"
        · subst q1
          rw [if_pos rfl] at h1
          refine ⟨[⟨0, 8, 9, 27⟩], ⟨0, 8, 15, 15⟩, [⟨0, 8, 21, 19⟩], "java/lang/IllegalArgumentException", hT.trans rfl, (fun z hz => by
              simp only [List.mem_cons, List.not_mem_nil, or_false] at hz
              rcases hz with rfl
              · exact Or.inr ⟨by decide, "java/lang/IndexOutOfBoundsException", cl_RL_27, by decide⟩), by decide, by decide, cl_RL_15, ca_IllegalArgumentException, fun z q => ?_⟩
          refine r_astore (pc := 15) (lv' := [some (va_rf (some a0)), some (.int x1), some (.int x2), some (.int x3), some (va_rf (some q))]) K dL_wall_15 (by decide) rfl ?_
          refine r_ldc2 (pc := 17) (v := (-9000000000000000002)) K dL_wall_17 kl_17 ?_
          exact r_fresh (fun hf9 => r_lretP (pc := 20) K hr dL_wall_20 (h1 z hf9) (by decide) (by decide))
        · rw [if_neg q1] at h1
          by_cases q2 : E = "java/lang/IllegalStateException"
          · subst q2
            rw [if_pos rfl] at h1
            refine ⟨[⟨0, 8, 9, 27⟩, ⟨0, 8, 15, 15⟩], ⟨0, 8, 21, 19⟩, [], "java/lang/IllegalStateException", hT.trans rfl, (fun z hz => by
                simp only [List.mem_cons, List.not_mem_nil, or_false] at hz
                rcases hz with rfl | rfl
                · exact Or.inr ⟨by decide, "java/lang/IndexOutOfBoundsException", cl_RL_27, by decide⟩
                · exact Or.inr ⟨by decide, "java/lang/IllegalArgumentException", cl_RL_15, by decide⟩), by decide, by decide, cl_RL_19, ca_IllegalStateException, fun z q => ?_⟩
            refine r_astore (pc := 21) (lv' := [some (va_rf (some a0)), some (.int x1), some (.int x2), some (.int x3), some (va_rf (some q))]) K dL_wall_21 (by decide) rfl ?_
            refine r_ldc2 (pc := 23) (v := (-9000000000000000003)) K dL_wall_23 kl_21 ?_
            exact r_fresh (fun hf9 => r_lretP (pc := 26) K hr dL_wall_26 (h1 z hf9) (by decide) (by decide))
          · rw [if_neg q2] at h1
            exact h1.elim
    · have h1 := wrP_val h hv
      refine r_i2l (pc := 7) K dL_wall_7 ?_
      exact r_lretP (pc := 8) K hr dL_wall_8 h1 (by decide) (by decide)
def rm_L_hang : Room := { frames := 8, cells := 3, slots := 18, locals := 144 }
def xl_L_hang : List (String × Int64) := [("java/lang/IndexOutOfBoundsException", -9000000000000000001), ("java/lang/IllegalStateException", -9000000000000000003)]
def P_L_hang (a0 : Nat) (x1 : Int32) (x2 : Int32) (hp : hpT) (Q : Int64 → hpT → Prop) : Prop := isP hp a0 7 (wrP xl_L_hang (F_X7_hang a0 x1 x2 hp) Q)
set_option maxRecDepth 100000 in
set_option maxHeartbeats 4000000 in
theorem M_L_hang {D : va_G} {cA : Nat → ClassId} {h0 : Nat} {l : Launch} (hl : l.stackTraces = false) (a0 : Nat) (x1 : Int32) (x2 : Int32) (hp : hpT) (Qp : Int64 → hpT → Prop) (h : P_L_hang a0 x1 x2 hp Qp) : vx_Met l yL_hang (wsmW yL_hang cL_hang 4 (some .long) [(0, 7, 8, 27), (0, 7, 13, 19)]) rm_L_hang (va_Pc [va_rf (some a0), .int x1, .int x2] (Pre strL D cA h0 hp)) (QLp D cA h0 Qp) (XN h0) 3 18 (Af h0) := by
  obtain ⟨⟨fs, hx7⟩, h⟩ := h
  refine g_entryW (by decide +kernel) hl (cat_c rfl (cat_c rfl (cat_c rfl (cat_n)))) (Nat.le_of_ble_eq_true rfl) (lv := [some (va_rf (some a0)), some (.int x1), some (.int x2), none]) rfl ?_
  intro p e s m args below meth c K hr hT
  have K : Cx strL D cA h0 p l s m args meth c cL_hang RL 4 := K
  cases hF : F_X7_hang a0 x1 x2 hp with
  | none => rw [hF] at h; exact h.elim
  | some r1 =>
    rw [hF] at h
    refine r_aload_n (pc := 0) K dL_hang_0 rfl ?_
    refine r_iload_n (pc := 1) K dL_hang_1 rfl ?_
    refine r_iload_n (pc := 2) K dL_hang_2 rfl ?_
    refine c_catch (pc := 3) (st := []) K (run_V (As := [.int x1, .int x2]) (b := a0) (ci := 7) (q0 := (RX7, TX7, 8)) K (M_X7_hang K.2.2.2.2.2.2.1 _ _ _ _ _ hF) dL_hang_3 ce_X7_hang cv_X7_hang lk_RL_54 rfl rfl hx7 rfl rfl (by decide) rfl rfl (Nat.le_of_ble_eq_true rfl) (by decide)) (fun E hE => ?_) (fun v hv => ?_)
    · have h1 := wrP_exc h hE
      simp only [xl_L_hang, wcP] at h1
      by_cases q0 : E = "java/lang/IndexOutOfBoundsException"
      · subst q0
        rw [if_pos rfl] at h1
        refine ⟨[], ⟨0, 7, 8, 27⟩, [⟨0, 7, 13, 19⟩], "java/lang/IndexOutOfBoundsException", hT.trans rfl, (fun z hz => by cases hz), by decide, by decide, cl_RL_27, ca_IndexOutOfBoundsException, fun z q => ?_⟩
        refine r_astore_n (pc := 8) (lv' := [some (va_rf (some a0)), some (.int x1), some (.int x2), some (va_rf (some q))]) K dL_hang_8 (by decide) rfl ?_
        refine r_ldc2 (pc := 9) (v := (-9000000000000000001)) K dL_hang_9 kl_29 ?_
        exact r_fresh (fun hf9 => r_lretP (pc := 12) K hr dL_hang_12 (h1 z hf9) (by decide) (by decide))
      · rw [if_neg q0] at h1
        by_cases q1 : E = "java/lang/IllegalStateException"
        · subst q1
          rw [if_pos rfl] at h1
          refine ⟨[⟨0, 7, 8, 27⟩], ⟨0, 7, 13, 19⟩, [], "java/lang/IllegalStateException", hT.trans rfl, (fun z hz => by
              simp only [List.mem_cons, List.not_mem_nil, or_false] at hz
              rcases hz with rfl
              · exact Or.inr ⟨by decide, "java/lang/IndexOutOfBoundsException", cl_RL_27, by decide⟩), by decide, by decide, cl_RL_19, ca_IllegalStateException, fun z q => ?_⟩
          refine r_astore_n (pc := 13) (lv' := [some (va_rf (some a0)), some (.int x1), some (.int x2), some (va_rf (some q))]) K dL_hang_13 (by decide) rfl ?_
          refine r_ldc2 (pc := 14) (v := (-9000000000000000003)) K dL_hang_14 kl_21 ?_
          exact r_fresh (fun hf9 => r_lretP (pc := 17) K hr dL_hang_17 (h1 z hf9) (by decide) (by decide))
        · rw [if_neg q1] at h1
          exact h1.elim
    · have h1 := wrP_val h hv
      refine r_i2l (pc := 6) K dL_hang_6 ?_
      exact r_lretP (pc := 7) K hr dL_hang_7 h1 (by decide) (by decide)
def rm_L_lengthen : Room := { frames := 8, cells := 4, slots := 24, locals := 139 }
def xl_L_lengthen : List (String × Int64) := [("java/lang/IndexOutOfBoundsException", -9000000000000000001), ("java/lang/IllegalArgumentException", -9000000000000000002), ("java/lang/IllegalStateException", -9000000000000000003)]
def P_L_lengthen (a0 : Nat) (x1 : Int32) (x2 : Int32) (x3 : Int32) (hp : hpT) (Q : Int64 → hpT → Prop) : Prop := isP hp a0 7 (wrP xl_L_lengthen (F_X7_lengthen a0 x1 x2 x3 hp) Q)
set_option maxRecDepth 100000 in
set_option maxHeartbeats 4000000 in
theorem M_L_lengthen {D : va_G} {cA : Nat → ClassId} {h0 : Nat} {l : Launch} (hl : l.stackTraces = false) (a0 : Nat) (x1 : Int32) (x2 : Int32) (x3 : Int32) (hp : hpT) (Qp : Int64 → hpT → Prop) (h : P_L_lengthen a0 x1 x2 x3 hp Qp) : vx_Met l yL_lengthen (wsmW yL_lengthen cL_lengthen 5 (some .long) [(0, 8, 9, 27), (0, 8, 15, 15), (0, 8, 21, 19)]) rm_L_lengthen (va_Pc [va_rf (some a0), .int x1, .int x2, .int x3] (Pre strL D cA h0 hp)) (QLp D cA h0 Qp) (XN h0) 4 24 (Af h0) := by
  obtain ⟨⟨fs, hx7⟩, h⟩ := h
  refine g_entryW (by decide +kernel) hl (cat_c rfl (cat_c rfl (cat_c rfl (cat_c rfl (cat_n))))) (Nat.le_of_ble_eq_true rfl) (lv := [some (va_rf (some a0)), some (.int x1), some (.int x2), some (.int x3), none]) rfl ?_
  intro p e s m args below meth c K hr hT
  have K : Cx strL D cA h0 p l s m args meth c cL_lengthen RL 5 := K
  cases hF : F_X7_lengthen a0 x1 x2 x3 hp with
  | none => rw [hF] at h; exact h.elim
  | some r1 =>
    rw [hF] at h
    refine r_aload_n (pc := 0) K dL_lengthen_0 rfl ?_
    refine r_iload_n (pc := 1) K dL_lengthen_1 rfl ?_
    refine r_iload_n (pc := 2) K dL_lengthen_2 rfl ?_
    refine r_iload_n (pc := 3) K dL_lengthen_3 rfl ?_
    refine c_catch (pc := 4) (st := []) K (run_V (As := [.int x1, .int x2, .int x3]) (b := a0) (ci := 7) (q0 := (RX7, TX7, 8)) K (M_X7_lengthen K.2.2.2.2.2.2.1 _ _ _ _ _ _ hF) dL_lengthen_4 ce_X7_lengthen cv_X7_lengthen lk_RL_57 rfl rfl hx7 rfl rfl (by decide) rfl rfl (Nat.le_of_ble_eq_true rfl) (by decide)) (fun E hE => ?_) (fun v hv => ?_)
    · have h1 := wrP_exc h hE
      simp only [xl_L_lengthen, wcP] at h1
      by_cases q0 : E = "java/lang/IndexOutOfBoundsException"
      · subst q0
        rw [if_pos rfl] at h1
        refine ⟨[], ⟨0, 8, 9, 27⟩, [⟨0, 8, 15, 15⟩, ⟨0, 8, 21, 19⟩], "java/lang/IndexOutOfBoundsException", hT.trans rfl, (fun z hz => by cases hz), by decide, by decide, cl_RL_27, ca_IndexOutOfBoundsException, fun z q => ?_⟩
        refine r_astore (pc := 9) (lv' := [some (va_rf (some a0)), some (.int x1), some (.int x2), some (.int x3), some (va_rf (some q))]) K dL_lengthen_9 (by decide) rfl ?_
        refine r_ldc2 (pc := 11) (v := (-9000000000000000001)) K dL_lengthen_11 kl_29 ?_
        exact r_fresh (fun hf9 => r_lretP (pc := 14) K hr dL_lengthen_14 (h1 z hf9) (by decide) (by decide))
      · rw [if_neg q0] at h1
        by_cases q1 : E = "java/lang/IllegalArgumentException"
        · subst q1
          rw [if_pos rfl] at h1
          refine ⟨[⟨0, 8, 9, 27⟩], ⟨0, 8, 15, 15⟩, [⟨0, 8, 21, 19⟩], "java/lang/IllegalArgumentException", hT.trans rfl, (fun z hz => by
              simp only [List.mem_cons, List.not_mem_nil, or_false] at hz
              rcases hz with rfl
              · exact Or.inr ⟨by decide, "java/lang/IndexOutOfBoundsException", cl_RL_27, by decide⟩), by decide, by decide, cl_RL_15, ca_IllegalArgumentException, fun z q => ?_⟩
          refine r_astore (pc := 15) (lv' := [some (va_rf (some a0)), some (.int x1), some (.int x2), some (.int x3), some (va_rf (some q))]) K dL_lengthen_15 (by decide) rfl ?_
          refine r_ldc2 (pc := 17) (v := (-9000000000000000002)) K dL_lengthen_17 kl_17 ?_
          exact r_fresh (fun hf9 => r_lretP (pc := 20) K hr dL_lengthen_20 (h1 z hf9) (by decide) (by decide))
        · rw [if_neg q1] at h1
          by_cases q2 : E = "java/lang/IllegalStateException"
          · subst q2
            rw [if_pos rfl] at h1
            refine ⟨[⟨0, 8, 9, 27⟩, ⟨0, 8, 15, 15⟩], ⟨0, 8, 21, 19⟩, [], "java/lang/IllegalStateException", hT.trans rfl, (fun z hz => by
                simp only [List.mem_cons, List.not_mem_nil, or_false] at hz
                rcases hz with rfl | rfl
                · exact Or.inr ⟨by decide, "java/lang/IndexOutOfBoundsException", cl_RL_27, by decide⟩
                · exact Or.inr ⟨by decide, "java/lang/IllegalArgumentException", cl_RL_15, by decide⟩), by decide, by decide, cl_RL_19, ca_IllegalStateException, fun z q => ?_⟩
            refine r_astore (pc := 21) (lv' := [some (va_rf (some a0)), some (.int x1), some (.int x2), some (.int x3), some (va_rf (some q))]) K dL_lengthen_21 (by decide) rfl ?_
            refine r_ldc2 (pc := 23) (v := (-9000000000000000003)) K dL_lengthen_23 kl_21 ?_
            exact r_fresh (fun hf9 => r_lretP (pc := 26) K hr dL_lengthen_26 (h1 z hf9) (by decide) (by decide))
          · rw [if_neg q2] at h1
            exact h1.elim
    · have h1 := wrP_val h hv
      refine r_i2l (pc := 7) K dL_lengthen_7 ?_
      exact r_lretP (pc := 8) K hr dL_lengthen_8 h1 (by decide) (by decide)
def rm_L_strip : Room := { frames := 8, cells := 2, slots := 12, locals := 136 }
def xl_L_strip : List (String × Int64) := [("java/lang/IndexOutOfBoundsException", -9000000000000000001), ("java/lang/IllegalStateException", -9000000000000000003)]
def P_L_strip (a0 : Nat) (x1 : Int32) (hp : hpT) (Q : Int64 → hpT → Prop) : Prop := isP hp a0 7 (wrP xl_L_strip (F_X7_strip a0 x1 hp) Q)
set_option maxRecDepth 100000 in
set_option maxHeartbeats 4000000 in
theorem M_L_strip {D : va_G} {cA : Nat → ClassId} {h0 : Nat} {l : Launch} (hl : l.stackTraces = false) (a0 : Nat) (x1 : Int32) (hp : hpT) (Qp : Int64 → hpT → Prop) (h : P_L_strip a0 x1 hp Qp) : vx_Met l yL_strip (wsmW yL_strip cL_strip 3 (some .long) [(0, 6, 7, 27), (0, 6, 12, 19)]) rm_L_strip (va_Pc [va_rf (some a0), .int x1] (Pre strL D cA h0 hp)) (QLp D cA h0 Qp) (XN h0) 2 12 (Af h0) := by
  obtain ⟨⟨fs, hx7⟩, h⟩ := h
  refine g_entryW (by decide +kernel) hl (cat_c rfl (cat_c rfl (cat_n))) (Nat.le_of_ble_eq_true rfl) (lv := [some (va_rf (some a0)), some (.int x1), none]) rfl ?_
  intro p e s m args below meth c K hr hT
  have K : Cx strL D cA h0 p l s m args meth c cL_strip RL 3 := K
  cases hF : F_X7_strip a0 x1 hp with
  | none => rw [hF] at h; exact h.elim
  | some r1 =>
    rw [hF] at h
    refine r_aload_n (pc := 0) K dL_strip_0 rfl ?_
    refine r_iload_n (pc := 1) K dL_strip_1 rfl ?_
    refine c_catch (pc := 2) (st := []) K (run_V (As := [.int x1]) (b := a0) (ci := 7) (q0 := (RX7, TX7, 8)) K (M_X7_strip K.2.2.2.2.2.2.1 _ _ _ _ hF) dL_strip_2 ce_X7_strip cv_X7_strip lk_RL_60 rfl rfl hx7 rfl rfl (by decide) rfl rfl (Nat.le_of_ble_eq_true rfl) (by decide)) (fun E hE => ?_) (fun v hv => ?_)
    · have h1 := wrP_exc h hE
      simp only [xl_L_strip, wcP] at h1
      by_cases q0 : E = "java/lang/IndexOutOfBoundsException"
      · subst q0
        rw [if_pos rfl] at h1
        refine ⟨[], ⟨0, 6, 7, 27⟩, [⟨0, 6, 12, 19⟩], "java/lang/IndexOutOfBoundsException", hT.trans rfl, (fun z hz => by cases hz), by decide, by decide, cl_RL_27, ca_IndexOutOfBoundsException, fun z q => ?_⟩
        refine r_astore_n (pc := 7) (lv' := [some (va_rf (some a0)), some (.int x1), some (va_rf (some q))]) K dL_strip_7 (by decide) rfl ?_
        refine r_ldc2 (pc := 8) (v := (-9000000000000000001)) K dL_strip_8 kl_29 ?_
        exact r_fresh (fun hf9 => r_lretP (pc := 11) K hr dL_strip_11 (h1 z hf9) (by decide) (by decide))
      · rw [if_neg q0] at h1
        by_cases q1 : E = "java/lang/IllegalStateException"
        · subst q1
          rw [if_pos rfl] at h1
          refine ⟨[⟨0, 6, 7, 27⟩], ⟨0, 6, 12, 19⟩, [], "java/lang/IllegalStateException", hT.trans rfl, (fun z hz => by
              simp only [List.mem_cons, List.not_mem_nil, or_false] at hz
              rcases hz with rfl
              · exact Or.inr ⟨by decide, "java/lang/IndexOutOfBoundsException", cl_RL_27, by decide⟩), by decide, by decide, cl_RL_19, ca_IllegalStateException, fun z q => ?_⟩
          refine r_astore_n (pc := 12) (lv' := [some (va_rf (some a0)), some (.int x1), some (va_rf (some q))]) K dL_strip_12 (by decide) rfl ?_
          refine r_ldc2 (pc := 13) (v := (-9000000000000000003)) K dL_strip_13 kl_21 ?_
          exact r_fresh (fun hf9 => r_lretP (pc := 16) K hr dL_strip_16 (h1 z hf9) (by decide) (by decide))
        · rw [if_neg q1] at h1
          exact h1.elim
    · have h1 := wrP_val h hv
      refine r_i2l (pc := 5) K dL_strip_5 ?_
      exact r_lretP (pc := 6) K hr dL_strip_6 h1 (by decide) (by decide)
def rm_L_room : Room := { frames := 8, cells := 2, slots := 12, locals := 135 }
def xl_L_room : List (String × Int64) := [("java/lang/IndexOutOfBoundsException", -9000000000000000001), ("java/lang/IllegalArgumentException", -9000000000000000002)]
def P_L_room (a0 : Nat) (x1 : Int32) (x2 : Int32) (hp : hpT) (Q : Int64 → hpT → Prop) : Prop := isP hp a0 7 (wrP xl_L_room (F_X7_room a0 x1 x2 hp) Q)
set_option maxRecDepth 100000 in
set_option maxHeartbeats 4000000 in
theorem M_L_room {D : va_G} {cA : Nat → ClassId} {h0 : Nat} {l : Launch} (hl : l.stackTraces = false) (a0 : Nat) (x1 : Int32) (x2 : Int32) (hp : hpT) (Qp : Int64 → hpT → Prop) (h : P_L_room a0 x1 x2 hp Qp) : vx_Met l yL_room (wsmW yL_room cL_room 4 (some .long) [(0, 7, 8, 27), (0, 7, 13, 15)]) rm_L_room (va_Pc [va_rf (some a0), .int x1, .int x2] (Pre strL D cA h0 hp)) (QLp D cA h0 Qp) (XN h0) 2 12 (Af h0) := by
  obtain ⟨⟨fs, hx7⟩, h⟩ := h
  refine g_entryW (by decide +kernel) hl (cat_c rfl (cat_c rfl (cat_c rfl (cat_n)))) (Nat.le_of_ble_eq_true rfl) (lv := [some (va_rf (some a0)), some (.int x1), some (.int x2), none]) rfl ?_
  intro p e s m args below meth c K hr hT
  have K : Cx strL D cA h0 p l s m args meth c cL_room RL 4 := K
  cases hF : F_X7_room a0 x1 x2 hp with
  | none => rw [hF] at h; exact h.elim
  | some r1 =>
    rw [hF] at h
    refine r_aload_n (pc := 0) K dL_room_0 rfl ?_
    refine r_iload_n (pc := 1) K dL_room_1 rfl ?_
    refine r_iload_n (pc := 2) K dL_room_2 rfl ?_
    refine c_catch (pc := 3) (st := []) K (run_V (As := [.int x1, .int x2]) (b := a0) (ci := 7) (q0 := (RX7, TX7, 8)) K (M_X7_room K.2.2.2.2.2.2.1 _ _ _ _ _ hF) dL_room_3 ce_X7_room cv_X7_room lk_RL_64 rfl rfl hx7 rfl rfl (by decide) rfl rfl (Nat.le_of_ble_eq_true rfl) (by decide)) (fun E hE => ?_) (fun v hv => ?_)
    · have h1 := wrP_exc h hE
      simp only [xl_L_room, wcP] at h1
      by_cases q0 : E = "java/lang/IndexOutOfBoundsException"
      · subst q0
        rw [if_pos rfl] at h1
        refine ⟨[], ⟨0, 7, 8, 27⟩, [⟨0, 7, 13, 15⟩], "java/lang/IndexOutOfBoundsException", hT.trans rfl, (fun z hz => by cases hz), by decide, by decide, cl_RL_27, ca_IndexOutOfBoundsException, fun z q => ?_⟩
        refine r_astore_n (pc := 8) (lv' := [some (va_rf (some a0)), some (.int x1), some (.int x2), some (va_rf (some q))]) K dL_room_8 (by decide) rfl ?_
        refine r_ldc2 (pc := 9) (v := (-9000000000000000001)) K dL_room_9 kl_29 ?_
        exact r_fresh (fun hf9 => r_lretP (pc := 12) K hr dL_room_12 (h1 z hf9) (by decide) (by decide))
      · rw [if_neg q0] at h1
        by_cases q1 : E = "java/lang/IllegalArgumentException"
        · subst q1
          rw [if_pos rfl] at h1
          refine ⟨[⟨0, 7, 8, 27⟩], ⟨0, 7, 13, 15⟩, [], "java/lang/IllegalArgumentException", hT.trans rfl, (fun z hz => by
              simp only [List.mem_cons, List.not_mem_nil, or_false] at hz
              rcases hz with rfl
              · exact Or.inr ⟨by decide, "java/lang/IndexOutOfBoundsException", cl_RL_27, by decide⟩), by decide, by decide, cl_RL_15, ca_IllegalArgumentException, fun z q => ?_⟩
          refine r_astore_n (pc := 13) (lv' := [some (va_rf (some a0)), some (.int x1), some (.int x2), some (va_rf (some q))]) K dL_room_13 (by decide) rfl ?_
          refine r_ldc2 (pc := 14) (v := (-9000000000000000002)) K dL_room_14 kl_17 ?_
          exact r_fresh (fun hf9 => r_lretP (pc := 17) K hr dL_room_17 (h1 z hf9) (by decide) (by decide))
        · rw [if_neg q1] at h1
          exact h1.elim
    · have h1 := wrP_val h hv
      refine r_i2l (pc := 6) K dL_room_6 ?_
      exact r_lretP (pc := 7) K hr dL_room_7 h1 (by decide) (by decide)
def rm_L_cut : Room := { frames := 8, cells := 3, slots := 18, locals := 137 }
def xl_L_cut : List (String × Int64) := [("java/lang/IndexOutOfBoundsException", -9000000000000000001)]
def P_L_cut (a0 : Nat) (x1 : Int32) (x2 : Int32) (x3 : Int32) (hp : hpT) (Q : Int64 → hpT → Prop) : Prop := isP hp a0 7 (wrP xl_L_cut (F_X7_cut a0 x1 x2 x3 hp) Q)
set_option maxRecDepth 100000 in
set_option maxHeartbeats 4000000 in
theorem M_L_cut {D : va_G} {cA : Nat → ClassId} {h0 : Nat} {l : Launch} (hl : l.stackTraces = false) (a0 : Nat) (x1 : Int32) (x2 : Int32) (x3 : Int32) (hp : hpT) (Qp : Int64 → hpT → Prop) (h : P_L_cut a0 x1 x2 x3 hp Qp) : vx_Met l yL_cut (wsmW yL_cut cL_cut 5 (some .long) [(0, 8, 9, 27)]) rm_L_cut (va_Pc [va_rf (some a0), .int x1, .int x2, .int x3] (Pre strL D cA h0 hp)) (QLp D cA h0 Qp) (XN h0) 3 18 (Af h0) := by
  obtain ⟨⟨fs, hx7⟩, h⟩ := h
  refine g_entryW (by decide +kernel) hl (cat_c rfl (cat_c rfl (cat_c rfl (cat_c rfl (cat_n))))) (Nat.le_of_ble_eq_true rfl) (lv := [some (va_rf (some a0)), some (.int x1), some (.int x2), some (.int x3), none]) rfl ?_
  intro p e s m args below meth c K hr hT
  have K : Cx strL D cA h0 p l s m args meth c cL_cut RL 5 := K
  cases hF : F_X7_cut a0 x1 x2 x3 hp with
  | none => rw [hF] at h; exact h.elim
  | some r1 =>
    rw [hF] at h
    refine r_aload_n (pc := 0) K dL_cut_0 rfl ?_
    refine r_iload_n (pc := 1) K dL_cut_1 rfl ?_
    refine r_iload_n (pc := 2) K dL_cut_2 rfl ?_
    refine r_iload_n (pc := 3) K dL_cut_3 rfl ?_
    refine c_catch (pc := 4) (st := []) K (run_V (As := [.int x1, .int x2, .int x3]) (b := a0) (ci := 7) (q0 := (RX7, TX7, 8)) K (M_X7_cut K.2.2.2.2.2.2.1 _ _ _ _ _ _ hF) dL_cut_4 ce_X7_cut cv_X7_cut lk_RL_67 rfl rfl hx7 rfl rfl (by decide) rfl rfl (Nat.le_of_ble_eq_true rfl) (by decide)) (fun E hE => ?_) (fun v hv => ?_)
    · have h1 := wrP_exc h hE
      simp only [xl_L_cut, wcP] at h1
      by_cases q0 : E = "java/lang/IndexOutOfBoundsException"
      · subst q0
        rw [if_pos rfl] at h1
        refine ⟨[], ⟨0, 8, 9, 27⟩, [], "java/lang/IndexOutOfBoundsException", hT.trans rfl, (fun z hz => by cases hz), by decide, by decide, cl_RL_27, ca_IndexOutOfBoundsException, fun z q => ?_⟩
        refine r_astore (pc := 9) (lv' := [some (va_rf (some a0)), some (.int x1), some (.int x2), some (.int x3), some (va_rf (some q))]) K dL_cut_9 (by decide) rfl ?_
        refine r_ldc2 (pc := 11) (v := (-9000000000000000001)) K dL_cut_11 kl_29 ?_
        exact r_fresh (fun hf9 => r_lretP (pc := 14) K hr dL_cut_14 (h1 z hf9) (by decide) (by decide))
      · rw [if_neg q0] at h1
        exact h1.elim
    · have h1 := wrP_val h hv
      refine r_i2l (pc := 7) K dL_cut_7 ?_
      exact r_lretP (pc := 8) K hr dL_cut_8 h1 (by decide) (by decide)
def rm_L_seen : Room := { frames := 8, cells := 3, slots := 18, locals := 140 }
def xl_L_seen : List (String × Int64) := [("java/lang/IndexOutOfBoundsException", -9000000000000000001)]
def P_L_seen (a0 : Nat) (x1 : Int32) (x2 : Int32) (x3 : Int32) (x4 : Int32) (hp : hpT) (Q : Int64 → hpT → Prop) : Prop := isP hp a0 7 (wrP xl_L_seen (F_X7_seen a0 x1 x2 x3 x4 hp) Q)
set_option maxRecDepth 100000 in
set_option maxHeartbeats 4000000 in
theorem M_L_seen {D : va_G} {cA : Nat → ClassId} {h0 : Nat} {l : Launch} (hl : l.stackTraces = false) (a0 : Nat) (x1 : Int32) (x2 : Int32) (x3 : Int32) (x4 : Int32) (hp : hpT) (Qp : Int64 → hpT → Prop) (h : P_L_seen a0 x1 x2 x3 x4 hp Qp) : vx_Met l yL_seen (wsmW yL_seen cL_seen 6 (some .long) [(0, 10, 11, 27)]) rm_L_seen (va_Pc [va_rf (some a0), .int x1, .int x2, .int x3, .int x4] (Pre strL D cA h0 hp)) (QLp D cA h0 Qp) (XN h0) 3 18 (Af h0) := by
  obtain ⟨⟨fs, hx7⟩, h⟩ := h
  refine g_entryW (by decide +kernel) hl (cat_c rfl (cat_c rfl (cat_c rfl (cat_c rfl (cat_c rfl (cat_n)))))) (Nat.le_of_ble_eq_true rfl) (lv := [some (va_rf (some a0)), some (.int x1), some (.int x2), some (.int x3), some (.int x4), none]) rfl ?_
  intro p e s m args below meth c K hr hT
  have K : Cx strL D cA h0 p l s m args meth c cL_seen RL 6 := K
  cases hF : F_X7_seen a0 x1 x2 x3 x4 hp with
  | none => rw [hF] at h; exact h.elim
  | some r1 =>
    rw [hF] at h
    refine r_aload_n (pc := 0) K dL_seen_0 rfl ?_
    refine r_iload_n (pc := 1) K dL_seen_1 rfl ?_
    refine r_iload_n (pc := 2) K dL_seen_2 rfl ?_
    refine r_iload_n (pc := 3) K dL_seen_3 rfl ?_
    refine r_iload (pc := 4) K dL_seen_4 rfl ?_
    refine c_catch (pc := 6) (st := []) K (run_V (As := [.int x1, .int x2, .int x3, .int x4]) (b := a0) (ci := 7) (q0 := (RX7, TX7, 8)) K (M_X7_seen K.2.2.2.2.2.2.1 _ _ _ _ _ _ _ hF) dL_seen_6 ce_X7_seen cv_X7_seen lk_RL_70 rfl rfl hx7 rfl rfl (by decide) rfl rfl (Nat.le_of_ble_eq_true rfl) (by decide)) (fun E hE => ?_) (fun v hv => ?_)
    · have h1 := wrP_exc h hE
      simp only [xl_L_seen, wcP] at h1
      by_cases q0 : E = "java/lang/IndexOutOfBoundsException"
      · subst q0
        rw [if_pos rfl] at h1
        refine ⟨[], ⟨0, 10, 11, 27⟩, [], "java/lang/IndexOutOfBoundsException", hT.trans rfl, (fun z hz => by cases hz), by decide, by decide, cl_RL_27, ca_IndexOutOfBoundsException, fun z q => ?_⟩
        refine r_astore (pc := 11) (lv' := [some (va_rf (some a0)), some (.int x1), some (.int x2), some (.int x3), some (.int x4), some (va_rf (some q))]) K dL_seen_11 (by decide) rfl ?_
        refine r_ldc2 (pc := 13) (v := (-9000000000000000001)) K dL_seen_13 kl_29 ?_
        exact r_fresh (fun hf9 => r_lretP (pc := 16) K hr dL_seen_16 (h1 z hf9) (by decide) (by decide))
      · rw [if_neg q0] at h1
        exact h1.elim
    · have h1 := wrP_val h hv
      refine r_i2l (pc := 9) K dL_seen_9 ?_
      exact r_lretP (pc := 10) K hr dL_seen_10 h1 (by decide) (by decide)
/-! draw: the script's int, or one by its place -/
def PreD (strs : List (String × Nat × String)) (D : va_G) (cA : Nat → ClassId) (h0 : Nat) (hp : hpT) (b L : Nat) (xs : Nat → Int32) (U : State) : Prop := Pre strs D cA h0 hp U ∧ va_X b L xs U U.heap ∧ b < U.heap.size
theorem preD_blind {strs : List (String × Nat × String)} {D : va_G} {cA : Nat → ClassId} {h0 : Nat} {hp : hpT} {b L : Nat} {xs : Nat → Int32} {av : List Value} : FrameBlind (va_Pc av (PreD strs D cA h0 hp b L xs)) := fun a U g mk q => ⟨q.1, Kx.calling g mk a q.2.1, va_X.moved (u := U) (U := U.calling g mk a) (State.WarmedH.refl U).alike q.2.2.1, q.2.2.2⟩
def rm_L_draw : Room := { frames := 0, cells := 0, slots := 0, locals := 0 }
def drawV (L : Nat) (xs : Nat → Int32) (k : Int32) : Int32 := if nI L ≤ k then ((15595823 * k) + 11783) &&& 2147483647 else xs k.toNatClampNeg &&& 2147483647
theorem drawP_inv {L : Nat} {xs : Nat → Int32} {k : Int32} {K : Int32 → Prop} (h : drawP L xs k K) : (¬ nI L ≤ k → vp_in k L) ∧ K (drawV L xs k) := by
  unfold drawP at h
  unfold drawV
  by_cases q : nI L ≤ k
  · rw [if_pos q] at h ⊢
    exact ⟨fun w => absurd q w, h⟩
  · rw [if_neg q] at h ⊢
    exact ⟨fun _ => h.1, h.2⟩
set_option maxRecDepth 100000 in
set_option maxHeartbeats 4000000 in
theorem M_L_draw {D : va_G} {cA : Nat → ClassId} {h0 : Nat} {l : Launch} (hl : l.stackTraces = false) {b L : Nat} {xs : Nat → Int32} (hbA : ¬ Af h0 b) (k : Int32) (hp : hpT) (hin : ¬ nI L ≤ k → vp_in k L) : vx_Met l yL_draw (wsm yL_draw cL_draw 2 (some .int)) rm_L_draw (va_Pc [va_rf (some b), .int k] (PreD strL D cA h0 hp b L xs)) (QI D cA h0 (.inl (drawV L xs k), hp)) (XE (α := Int32) D cA h0 (.inl (drawV L xs k), hp)) 0 0 (Af h0) := by
  refine vx_ofWF (cc := cL_draw) (maxL := 2) (ret := some .int) (by decide +kernel) rfl ?_
  intro p e s m args below meth c s₁ B hml ht hv
  obtain ⟨rfl, ⟨hW, hK⟩, hX, hbl⟩ := hv
  have hts : ∀ w ∈ wsm yL_draw cL_draw 2 (some .int), w.before ([va_rf (some b), .int k] : List Value).toArray s = true := atoms_spec (ws := wsm yL_draw cL_draw 2 (some .int)) B.pre
  have hown : s.vm.findClass RL = some m.cls := findClass_of_methodNamed B.named
  have hr := B.returns
  have hlp := lvP_entry [va_rf (some b), .int k] (n := 2) (cat_c rfl (cat_c rfl cat_n)) (Nat.le_of_ble_eq_true rfl)
  rw [lg_entry_eq]
  have K : Cx strL D cA h0 p l s m ([va_rf (some b), .int k] : List Value).toArray meth c cL_draw RL 2 := ⟨B.exec, B.bytes, hml, hown, fun w hw => hts w (List.mem_cons_of_mem _ hw), hK, hl, B.notSynchronized⟩
  suffices G D cA h0 p l e rm_L_draw s m ([va_rf (some b), .int k] : List Value).toArray below meth c 2 (vx_MQ below (QI D cA h0 (.inl (drawV L xs k), hp)) (XE (α := Int32) D cA h0 (.inl (drawV L xs k), hp)) ([va_rf (some b), .int k] : List Value).toArray s 0 0 (Af h0)) 0 0 hp 0 [some (va_rf (some b)), some (.int k)] [] from this s.heap [] _ hW va_S.rf hlp
  refine r_iload_n (pc := 0) K dL_draw_0 rfl ?_
  refine r_aload_n (pc := 1) K dL_draw_1 rfl ?_
  refine r_slen (pc := 2) K hX hbl hbA dL_draw_2 ?_
  refine q_icmp_ge (pc := 3) (tgt := 12) K dL_draw_3 (by decide) (fun q => ?_) (fun q => ?_)
  · have e9 : drawV L xs k = ((15595823 * k) + 11783) &&& 2147483647 := if_pos q
    refine r_ldc (pc := 12) (v := 15595823) K dL_draw_12 kc_7 ?_
    refine r_iload_n (pc := 14) K dL_draw_14 rfl ?_
    refine r_imul (pc := 15) K dL_draw_15 ?_
    refine r_sipush (pc := 16) (v := 11783) K dL_draw_16 (by decide) ?_
    refine r_iadd (pc := 19) K dL_draw_19 ?_
    refine r_ldc (pc := 20) (v := 2147483647) K dL_draw_20 kc_8 ?_
    refine r_iand (pc := 22) K dL_draw_22 ?_
    rw [e9]
    exact r_ireturn (pc := 23) K hr dL_draw_23 rfl (by decide) (by decide)
  · have e9 : drawV L xs k = xs k.toNatClampNeg &&& 2147483647 := if_neg q
    refine r_aload_n (pc := 6) K dL_draw_6 rfl ?_
    refine r_iload_n (pc := 7) K dL_draw_7 rfl ?_
    refine r_sld (pc := 8) K hX hbl hbA (hin q) dL_draw_8 ?_
    refine r_goto (pc := 9) (tgt := 20) K dL_draw_9 (by decide) ?_
    refine r_ldc (pc := 20) (v := 2147483647) K dL_draw_20 kc_8 ?_
    refine r_iand (pc := 22) K dL_draw_22 ?_
    rw [e9]
    exact r_ireturn (pc := 23) K hr dL_draw_23 rfl (by decide) (by decide)
/-- a call of draw -/
theorem l_draw {D : va_G} {cA : Nat → ClassId} {h0 : Nat} {p : Program} {l : Launch} {e : Env} {R : Room} {s : State} {m : MethodId} {args : Array Value} {below : List Frame} {meth : Method} {c : Code} {nL cells slots : Nat} {Q : State → Prop} {hp : hpT} {pc : Nat} {lv : List (Nat × Value)} {st st0 : List Value} {cc : ByteArray} {own : String} {idx : Nat} {b L : Nat} {xs : Nat → Int32} {k : Int32} {F : Int32 → Prop} (K : Cx strL D cA h0 p l s m args meth c cc own nL) (hX : va_X b L xs s s.heap) (hbl : b < s.heap.size) (hbA : ¬ Af h0 b) (h : drawP L xs k F) (d : decode cc pc = .ok (.invokestatic idx, 3)) (hL : LNK own idx yL_draw) (hR : rm_L_draw.frames + 1 ≤ R.frames ∧ 8 + (2 + 11) + rm_L_draw.locals ≤ R.locals) (hc : cells + 0 ≤ R.cells) (hs : slots + 0 ≤ R.slots) (hst : st0 = .int k :: .ref b :: st) (hW : mcat st ≤ 8)
    (kk : ∀ v, F v → GL D cA h0 p l e R s m args below meth c nL Q (cells + 0) (slots + 0) hp (pc + 3) lv (.int v :: st)) : GL D cA h0 p l e R s m args below meth c nL Q cells slots hp pc lv st0 := by
  obtain ⟨hin, hF⟩ := drawP_inv h
  intro H locs ls a1 a2 a3
  obtain ⟨hx, hb, hml, hown, hts, hK, hl, -⟩ := id K
  have hM := M_L_draw (D := D) (cA := cA) (h0 := h0) hl (b := b) (L := L) (xs := xs) hbA k hp hin
  have hE : CEE yL_draw cL_draw 2 (some .int) 2 := ce_L_draw
  have hG : GoodIn gdL (wsm yL_draw cL_draw 2 (some .int)) := gdIn (wsm_in (P := fun _ => True) hE.1)
  have hbH : H[b]? = s.heap[b]? := a2.2.1 b hbl hbA
  have hp' : PreS s H (va_Pc [va_rf (some b), .int k] (PreD strL D cA h0 hp b L xs)) [va_rf (some b), .int k] := ⟨preD_blind, fun U hU hW => ⟨rfl, pre_at K a1 a2 U hU hW, by rw [hU]; exact va_X.kept (va_X.moved hW.alike hX) hbH, by rw [hU]; exact Nat.lt_of_lt_of_le hbl a2.1⟩⟩
  have run : vx_Run p l e R s m args below meth c H locs cells slots 0 0 (F0 m pc ls st0) st (QI D cA h0 (.inl (drawV L xs k), hp) [va_rf (some b), .int k].toArray) (XE (α := Int32) D cA h0 (.inl (drawV L xs k), hp)) (Af h0) := by
    rcases hL with h | ⟨host, h⟩
    · exact vx_runS (Ts := gdL) (own := own) ⟨hx, hb, hml, hown, hts⟩ hM ⟨callB_of 2 hts hG rfl rfl rfl (hts _ hE.2.1) (hts _ h) hE.2.2 hR, hts _ cs_L_draw⟩ hp' rfl rfl a3.1 hst (lv_room hW) d ⟨hc, hs⟩
    · exact vx_runSN (Ts := gdL) (own := own) ⟨hx, hb, hml, hown, hts⟩ hM ⟨va_cnB 2 hts hG rfl rfl rfl (hK.2.1 _ h) (hts _ hE.2.1) hE.2.2 hR, hts _ cs_L_draw, trivial⟩ hp' rfl rfl a3.1 hst (lv_room hW) d ⟨hc, hs⟩
  refine vx_calli run a2 (fun _ _ h => h) (fun _ h => h) (fun _ _ h => h) (fun E ce q9 u t H1 locs1 ht _ _ hb _ _ b2 hq hv hcl => ?_) (fun r u t H1 locs1 ht _ hp1 hB _ _ b2 => ?_)
  · cases hb.1
  · cases hp1
    exact kk _ hF H1 locs1 ls (by rw [← ht]; exact hB) b2 a3
