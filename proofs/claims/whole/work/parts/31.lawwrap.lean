/-! the wrappers of the law: each calls a method of the class and catches what it throws -/
theorem cw_L_pattern : CEW yL_pattern cL_pattern 6 (some .int) [(0, 12, 15, 13), (0, 12, 19, 15)] 5 := ⟨gdL_in 167 (by decide +kernel) (by decide +kernel), gdL_in 45 (by decide +kernel) (by decide +kernel), by decide +kernel, by decide +kernel, by decide +kernel⟩
theorem lk_RL_7 : LNK RL 7 yX7_pattern := Or.inl (gdL_in 170 (by decide +kernel) (by decide +kernel))
theorem cl_RL_13 : Cond.classLink RL 13 "java/lang/IllegalArgumentException" ∈ gdL := gdL_in 168 (by decide +kernel) (by decide +kernel)
theorem ca_IllegalArgumentException : Cond.castable "java/lang/IllegalArgumentException" "java/lang/IllegalArgumentException" ∈ ngL := ngL_in 179 (by decide +kernel) (by decide +kernel)
theorem cl_RL_15 : Cond.classLink RL 15 "java/lang/IllegalStateException" ∈ gdL := gdL_in 169 (by decide +kernel) (by decide +kernel)
theorem ca_IllegalStateException : Cond.castable "java/lang/IllegalStateException" "java/lang/IllegalStateException" ∈ ngL := ngL_in 248 (by decide +kernel) (by decide +kernel)
theorem cw_L_paint : CEW yL_paint cL_paint 7 (some .int) [(0, 14, 17, 21), (0, 14, 21, 13)] 6 := ⟨gdL_in 306 (by decide +kernel) (by decide +kernel), gdL_in 45 (by decide +kernel) (by decide +kernel), by decide +kernel, by decide +kernel, by decide +kernel⟩
theorem lk_RL_17 : LNK RL 17 yX7_paint := Or.inl (gdL_in 308 (by decide +kernel) (by decide +kernel))
theorem cl_RL_21 : Cond.classLink RL 21 "java/lang/IndexOutOfBoundsException" ∈ gdL := gdL_in 307 (by decide +kernel) (by decide +kernel)
theorem ca_IndexOutOfBoundsException : Cond.castable "java/lang/IndexOutOfBoundsException" "java/lang/IndexOutOfBoundsException" ∈ ngL := ngL_in 318 (by decide +kernel) (by decide +kernel)
theorem cw_L_colour : CEW yL_colour cL_colour 6 (some .int) [(0, 12, 15, 21)] 5 := ⟨gdL_in 354 (by decide +kernel) (by decide +kernel), gdL_in 45 (by decide +kernel) (by decide +kernel), by decide +kernel, by decide +kernel, by decide +kernel⟩
theorem lk_RL_23 : LNK RL 23 yX7_colour := Or.inl (gdL_in 355 (by decide +kernel) (by decide +kernel))
theorem cw_L_repeat : CEW yL_repeat cL_repeat 5 (some .int) [(0, 10, 13, 21)] 4 := ⟨gdL_in 375 (by decide +kernel) (by decide +kernel), gdL_in 45 (by decide +kernel) (by decide +kernel), by decide +kernel, by decide +kernel, by decide +kernel⟩
theorem lk_RL_26 : LNK RL 26 yX7_repeat := Or.inl (gdL_in 376 (by decide +kernel) (by decide +kernel))
theorem cw_L_repeatAnew : CEW yL_repeatAnew cL_repeatAnew 5 (some .int) [(0, 10, 13, 21)] 4 := ⟨gdL_in 382 (by decide +kernel) (by decide +kernel), gdL_in 45 (by decide +kernel) (by decide +kernel), by decide +kernel, by decide +kernel, by decide +kernel⟩
theorem lk_RL_30 : LNK RL 30 yX7_repeatAnew := Or.inl (gdL_in 383 (by decide +kernel) (by decide +kernel))
theorem cw_L_roller : CEW yL_roller cL_roller 5 (some .int) [(0, 10, 13, 21), (0, 10, 17, 13), (0, 10, 21, 15)] 4 := ⟨gdL_in 398 (by decide +kernel) (by decide +kernel), gdL_in 45 (by decide +kernel) (by decide +kernel), by decide +kernel, by decide +kernel, by decide +kernel⟩
theorem lk_RL_33 : LNK RL 33 yX7_roller := Or.inl (gdL_in 399 (by decide +kernel) (by decide +kernel))
theorem cw_L_lot : CEW yL_lot cL_lot 7 (some .int) [(0, 14, 17, 21), (0, 14, 21, 13), (0, 14, 25, 15)] 6 := ⟨gdL_in 429 (by decide +kernel) (by decide +kernel), gdL_in 45 (by decide +kernel) (by decide +kernel), by decide +kernel, by decide +kernel, by decide +kernel⟩
theorem lk_RL_37 : LNK RL 37 yX7_lot := Or.inl (gdL_in 430 (by decide +kernel) (by decide +kernel))
theorem cw_L_lotOf : CEW yL_lotOf cL_lotOf 5 (some .int) [(0, 10, 13, 21), (0, 10, 17, 13)] 4 := ⟨gdL_in 474 (by decide +kernel) (by decide +kernel), gdL_in 45 (by decide +kernel) (by decide +kernel), by decide +kernel, by decide +kernel, by decide +kernel⟩
theorem lk_RL_40 : LNK RL 40 yX7_lotOf := Or.inl (gdL_in 475 (by decide +kernel) (by decide +kernel))
theorem cw_L_wall : CEW yL_wall cL_wall 6 (some .int) [(0, 12, 15, 21), (0, 12, 19, 13), (0, 12, 23, 15)] 5 := ⟨gdL_in 491 (by decide +kernel) (by decide +kernel), gdL_in 45 (by decide +kernel) (by decide +kernel), by decide +kernel, by decide +kernel, by decide +kernel⟩
theorem lk_RL_43 : LNK RL 43 yX7_wall := Or.inl (gdL_in 492 (by decide +kernel) (by decide +kernel))
theorem cw_L_hang : CEW yL_hang cL_hang 5 (some .int) [(0, 10, 13, 21), (0, 10, 17, 15)] 4 := ⟨gdL_in 533 (by decide +kernel) (by decide +kernel), gdL_in 45 (by decide +kernel) (by decide +kernel), by decide +kernel, by decide +kernel, by decide +kernel⟩
theorem lk_RL_46 : LNK RL 46 yX7_hang := Or.inl (gdL_in 534 (by decide +kernel) (by decide +kernel))
theorem cw_L_lengthen : CEW yL_lengthen cL_lengthen 6 (some .int) [(0, 12, 15, 21), (0, 12, 19, 13), (0, 12, 23, 15)] 5 := ⟨gdL_in 574 (by decide +kernel) (by decide +kernel), gdL_in 45 (by decide +kernel) (by decide +kernel), by decide +kernel, by decide +kernel, by decide +kernel⟩
theorem lk_RL_49 : LNK RL 49 yX7_lengthen := Or.inl (gdL_in 575 (by decide +kernel) (by decide +kernel))
theorem cw_L_strip : CEW yL_strip cL_strip 4 (some .int) [(0, 9, 12, 21), (0, 9, 15, 15)] 3 := ⟨gdL_in 599 (by decide +kernel) (by decide +kernel), gdL_in 45 (by decide +kernel) (by decide +kernel), by decide +kernel, by decide +kernel, by decide +kernel⟩
theorem lk_RL_52 : LNK RL 52 yX7_strip := Or.inl (gdL_in 600 (by decide +kernel) (by decide +kernel))
theorem cw_L_room : CEW yL_room cL_room 5 (some .int) [(0, 10, 13, 21), (0, 10, 17, 13)] 4 := ⟨gdL_in 606 (by decide +kernel) (by decide +kernel), gdL_in 45 (by decide +kernel) (by decide +kernel), by decide +kernel, by decide +kernel, by decide +kernel⟩
theorem lk_RL_56 : LNK RL 56 yX7_room := Or.inl (gdL_in 607 (by decide +kernel) (by decide +kernel))
theorem cw_L_cut : CEW yL_cut cL_cut 6 (some .int) [(0, 12, 15, 21)] 5 := ⟨gdL_in 622 (by decide +kernel) (by decide +kernel), gdL_in 45 (by decide +kernel) (by decide +kernel), by decide +kernel, by decide +kernel, by decide +kernel⟩
theorem lk_RL_59 : LNK RL 59 yX7_cut := Or.inl (gdL_in 623 (by decide +kernel) (by decide +kernel))
theorem cw_L_seen : CEW yL_seen cL_seen 7 (some .int) [(0, 14, 17, 21)] 6 := ⟨gdL_in 630 (by decide +kernel) (by decide +kernel), gdL_in 45 (by decide +kernel) (by decide +kernel), by decide +kernel, by decide +kernel, by decide +kernel⟩
theorem lk_RL_62 : LNK RL 62 yX7_seen := Or.inl (gdL_in 631 (by decide +kernel) (by decide +kernel))
theorem cs_w_L_pattern : CST yL_pattern := gdL_in 166 (by decide +kernel) (by decide +kernel)
theorem lw_RL_69 : Cond.methodLink RL 69 yL_pattern ∈ gdL := gdL_in 165 (by decide +kernel) (by decide +kernel)
theorem lk_RL_74 : LNK RL 74 yX8_pattern := Or.inl (gdL_in 734 (by decide +kernel) (by decide +kernel))
theorem lk_RL_75 : LNK RL 75 yX8_thrown := Or.inl (gdL_in 730 (by decide +kernel) (by decide +kernel))
theorem cs_w_L_paint : CST yL_paint := gdL_in 305 (by decide +kernel) (by decide +kernel)
theorem lw_RL_79 : Cond.methodLink RL 79 yL_paint ∈ gdL := gdL_in 304 (by decide +kernel) (by decide +kernel)
theorem lk_RL_82 : LNK RL 82 yX8_paint := Or.inl (gdL_in 745 (by decide +kernel) (by decide +kernel))
theorem cs_w_L_colour : CST yL_colour := gdL_in 353 (by decide +kernel) (by decide +kernel)
theorem lw_RL_83 : Cond.methodLink RL 83 yL_colour ∈ gdL := gdL_in 352 (by decide +kernel) (by decide +kernel)
theorem lk_RL_85 : LNK RL 85 yX8_colour := Or.inl (gdL_in 753 (by decide +kernel) (by decide +kernel))
theorem cs_w_L_repeat : CST yL_repeat := gdL_in 374 (by decide +kernel) (by decide +kernel)
theorem lw_RL_86 : Cond.methodLink RL 86 yL_repeat ∈ gdL := gdL_in 373 (by decide +kernel) (by decide +kernel)
theorem lk_RL_89 : LNK RL 89 yX8_repeat := Or.inl (gdL_in 776 (by decide +kernel) (by decide +kernel))
theorem cs_w_L_repeatAnew : CST yL_repeatAnew := gdL_in 381 (by decide +kernel) (by decide +kernel)
theorem lw_RL_90 : Cond.methodLink RL 90 yL_repeatAnew ∈ gdL := gdL_in 380 (by decide +kernel) (by decide +kernel)
theorem lk_RL_92 : LNK RL 92 yX8_repeatAnew := Or.inl (gdL_in 780 (by decide +kernel) (by decide +kernel))
theorem cs_w_L_roller : CST yL_roller := gdL_in 397 (by decide +kernel) (by decide +kernel)
theorem lw_RL_93 : Cond.methodLink RL 93 yL_roller ∈ gdL := gdL_in 396 (by decide +kernel) (by decide +kernel)
theorem lk_RL_96 : LNK RL 96 yX8_roller := Or.inl (gdL_in 788 (by decide +kernel) (by decide +kernel))
theorem cs_w_L_lot : CST yL_lot := gdL_in 428 (by decide +kernel) (by decide +kernel)
theorem lw_RL_97 : Cond.methodLink RL 97 yL_lot ∈ gdL := gdL_in 427 (by decide +kernel) (by decide +kernel)
theorem lk_RL_99 : LNK RL 99 yX8_lot := Or.inl (gdL_in 792 (by decide +kernel) (by decide +kernel))
theorem cs_w_L_lotOf : CST yL_lotOf := gdL_in 473 (by decide +kernel) (by decide +kernel)
theorem lw_RL_100 : Cond.methodLink RL 100 yL_lotOf ∈ gdL := gdL_in 472 (by decide +kernel) (by decide +kernel)
theorem lk_RL_102 : LNK RL 102 yX8_lotOf := Or.inl (gdL_in 796 (by decide +kernel) (by decide +kernel))
theorem cs_w_L_wall : CST yL_wall := gdL_in 490 (by decide +kernel) (by decide +kernel)
theorem lw_RL_103 : Cond.methodLink RL 103 yL_wall ∈ gdL := gdL_in 489 (by decide +kernel) (by decide +kernel)
theorem lk_RL_105 : LNK RL 105 yX8_wall := Or.inl (gdL_in 800 (by decide +kernel) (by decide +kernel))
theorem cs_w_L_hang : CST yL_hang := gdL_in 532 (by decide +kernel) (by decide +kernel)
theorem lw_RL_106 : Cond.methodLink RL 106 yL_hang ∈ gdL := gdL_in 531 (by decide +kernel) (by decide +kernel)
theorem lk_RL_108 : LNK RL 108 yX8_hang := Or.inl (gdL_in 811 (by decide +kernel) (by decide +kernel))
theorem cs_w_L_lengthen : CST yL_lengthen := gdL_in 573 (by decide +kernel) (by decide +kernel)
theorem lw_RL_109 : Cond.methodLink RL 109 yL_lengthen ∈ gdL := gdL_in 572 (by decide +kernel) (by decide +kernel)
theorem lk_RL_111 : LNK RL 111 yX8_lengthen := Or.inl (gdL_in 831 (by decide +kernel) (by decide +kernel))
theorem cs_w_L_strip : CST yL_strip := gdL_in 598 (by decide +kernel) (by decide +kernel)
theorem lw_RL_112 : Cond.methodLink RL 112 yL_strip ∈ gdL := gdL_in 597 (by decide +kernel) (by decide +kernel)
theorem lk_RL_115 : LNK RL 115 yX8_strip := Or.inl (gdL_in 843 (by decide +kernel) (by decide +kernel))
theorem cs_w_L_room : CST yL_room := gdL_in 605 (by decide +kernel) (by decide +kernel)
theorem lw_RL_116 : Cond.methodLink RL 116 yL_room ∈ gdL := gdL_in 604 (by decide +kernel) (by decide +kernel)
theorem lk_RL_118 : LNK RL 118 yX8_room := Or.inl (gdL_in 847 (by decide +kernel) (by decide +kernel))
theorem cs_w_L_cut : CST yL_cut := gdL_in 621 (by decide +kernel) (by decide +kernel)
theorem lw_RL_119 : Cond.methodLink RL 119 yL_cut ∈ gdL := gdL_in 620 (by decide +kernel) (by decide +kernel)
theorem lk_RL_121 : LNK RL 121 yX8_cut := Or.inl (gdL_in 855 (by decide +kernel) (by decide +kernel))
theorem cs_w_L_seen : CST yL_seen := gdL_in 629 (by decide +kernel) (by decide +kernel)
theorem lw_RL_122 : Cond.methodLink RL 122 yL_seen ∈ gdL := gdL_in 628 (by decide +kernel) (by decide +kernel)
theorem lk_RL_124 : LNK RL 124 yX8_seen := Or.inl (gdL_in 859 (by decide +kernel) (by decide +kernel))
theorem lk_RL_125 : LNK RL 125 yX7_lost := Or.inl (gdL_in 161 (by decide +kernel) (by decide +kernel))
theorem lk_RL_128 : LNK RL 128 yX8_lost := Or.inl (gdL_in 863 (by decide +kernel) (by decide +kernel))
theorem ce_X7_pattern : CEE yX7_pattern cX7_pattern 5 (some .int) 3 := ⟨gdL_in 173 (by decide +kernel) (by decide +kernel), gdL_in 46 (by decide +kernel) (by decide +kernel), by decide +kernel, by decide +kernel, by decide +kernel⟩
theorem cv_X7_pattern : CVI yX7_pattern := ⟨gdL_in 171 (by decide +kernel) (by decide +kernel), gdL_in 172 (by decide +kernel) (by decide +kernel)⟩
theorem ce_X7_paint : CEE yX7_paint cX7_paint 7 (some .int) 4 := ⟨gdL_in 311 (by decide +kernel) (by decide +kernel), gdL_in 46 (by decide +kernel) (by decide +kernel), by decide +kernel, by decide +kernel, by decide +kernel⟩
theorem cv_X7_paint : CVI yX7_paint := ⟨gdL_in 309 (by decide +kernel) (by decide +kernel), gdL_in 310 (by decide +kernel) (by decide +kernel)⟩
theorem ce_X7_colour : CEE yX7_colour cX7_colour 4 (some .int) 3 := ⟨gdL_in 358 (by decide +kernel) (by decide +kernel), gdL_in 46 (by decide +kernel) (by decide +kernel), by decide +kernel, by decide +kernel, by decide +kernel⟩
theorem cv_X7_colour : CVI yX7_colour := ⟨gdL_in 356 (by decide +kernel) (by decide +kernel), gdL_in 357 (by decide +kernel) (by decide +kernel)⟩
theorem ce_X7_repeat : CEE yX7_repeat cX7_repeat 4 (some .int) 2 := ⟨gdL_in 379 (by decide +kernel) (by decide +kernel), gdL_in 46 (by decide +kernel) (by decide +kernel), by decide +kernel, by decide +kernel, by decide +kernel⟩
theorem cv_X7_repeat : CVI yX7_repeat := ⟨gdL_in 377 (by decide +kernel) (by decide +kernel), gdL_in 378 (by decide +kernel) (by decide +kernel)⟩
theorem ce_X7_repeatAnew : CEE yX7_repeatAnew cX7_repeatAnew 3 (some .int) 2 := ⟨gdL_in 386 (by decide +kernel) (by decide +kernel), gdL_in 46 (by decide +kernel) (by decide +kernel), by decide +kernel, by decide +kernel, by decide +kernel⟩
theorem cv_X7_repeatAnew : CVI yX7_repeatAnew := ⟨gdL_in 384 (by decide +kernel) (by decide +kernel), gdL_in 385 (by decide +kernel) (by decide +kernel)⟩
theorem ce_X7_roller : CEE yX7_roller cX7_roller 5 (some .int) 2 := ⟨gdL_in 402 (by decide +kernel) (by decide +kernel), gdL_in 46 (by decide +kernel) (by decide +kernel), by decide +kernel, by decide +kernel, by decide +kernel⟩
theorem cv_X7_roller : CVI yX7_roller := ⟨gdL_in 400 (by decide +kernel) (by decide +kernel), gdL_in 401 (by decide +kernel) (by decide +kernel)⟩
theorem ce_X7_lot : CEE yX7_lot cX7_lot 7 (some .int) 4 := ⟨gdL_in 433 (by decide +kernel) (by decide +kernel), gdL_in 46 (by decide +kernel) (by decide +kernel), by decide +kernel, by decide +kernel, by decide +kernel⟩
theorem cv_X7_lot : CVI yX7_lot := ⟨gdL_in 431 (by decide +kernel) (by decide +kernel), gdL_in 432 (by decide +kernel) (by decide +kernel)⟩
theorem ce_X7_lotOf : CEE yX7_lotOf cX7_lotOf 4 (some .int) 2 := ⟨gdL_in 478 (by decide +kernel) (by decide +kernel), gdL_in 46 (by decide +kernel) (by decide +kernel), by decide +kernel, by decide +kernel, by decide +kernel⟩
theorem cv_X7_lotOf : CVI yX7_lotOf := ⟨gdL_in 476 (by decide +kernel) (by decide +kernel), gdL_in 477 (by decide +kernel) (by decide +kernel)⟩
theorem ce_X7_wall : CEE yX7_wall cX7_wall 6 (some .int) 3 := ⟨gdL_in 495 (by decide +kernel) (by decide +kernel), gdL_in 46 (by decide +kernel) (by decide +kernel), by decide +kernel, by decide +kernel, by decide +kernel⟩
theorem cv_X7_wall : CVI yX7_wall := ⟨gdL_in 493 (by decide +kernel) (by decide +kernel), gdL_in 494 (by decide +kernel) (by decide +kernel)⟩
theorem ce_X7_hang : CEE yX7_hang cX7_hang 6 (some .int) 2 := ⟨gdL_in 537 (by decide +kernel) (by decide +kernel), gdL_in 46 (by decide +kernel) (by decide +kernel), by decide +kernel, by decide +kernel, by decide +kernel⟩
theorem cv_X7_hang : CVI yX7_hang := ⟨gdL_in 535 (by decide +kernel) (by decide +kernel), gdL_in 536 (by decide +kernel) (by decide +kernel)⟩
theorem ce_X7_lengthen : CEE yX7_lengthen cX7_lengthen 8 (some .int) 3 := ⟨gdL_in 578 (by decide +kernel) (by decide +kernel), gdL_in 46 (by decide +kernel) (by decide +kernel), by decide +kernel, by decide +kernel, by decide +kernel⟩
theorem cv_X7_lengthen : CVI yX7_lengthen := ⟨gdL_in 576 (by decide +kernel) (by decide +kernel), gdL_in 577 (by decide +kernel) (by decide +kernel)⟩
theorem ce_X7_strip : CEE yX7_strip cX7_strip 5 (some .int) 1 := ⟨gdL_in 603 (by decide +kernel) (by decide +kernel), gdL_in 46 (by decide +kernel) (by decide +kernel), by decide +kernel, by decide +kernel, by decide +kernel⟩
theorem cv_X7_strip : CVI yX7_strip := ⟨gdL_in 601 (by decide +kernel) (by decide +kernel), gdL_in 602 (by decide +kernel) (by decide +kernel)⟩
theorem ce_X7_room : CEE yX7_room cX7_room 4 (some .int) 2 := ⟨gdL_in 610 (by decide +kernel) (by decide +kernel), gdL_in 46 (by decide +kernel) (by decide +kernel), by decide +kernel, by decide +kernel, by decide +kernel⟩
theorem cv_X7_room : CVI yX7_room := ⟨gdL_in 608 (by decide +kernel) (by decide +kernel), gdL_in 609 (by decide +kernel) (by decide +kernel)⟩
theorem ce_X7_cut : CEE yX7_cut cX7_cut 6 (some .int) 3 := ⟨gdL_in 626 (by decide +kernel) (by decide +kernel), gdL_in 46 (by decide +kernel) (by decide +kernel), by decide +kernel, by decide +kernel, by decide +kernel⟩
theorem cv_X7_cut : CVI yX7_cut := ⟨gdL_in 624 (by decide +kernel) (by decide +kernel), gdL_in 625 (by decide +kernel) (by decide +kernel)⟩
theorem ce_X7_seen : CEE yX7_seen cX7_seen 9 (some .int) 4 := ⟨gdL_in 634 (by decide +kernel) (by decide +kernel), gdL_in 46 (by decide +kernel) (by decide +kernel), by decide +kernel, by decide +kernel, by decide +kernel⟩
theorem cv_X7_seen : CVI yX7_seen := ⟨gdL_in 632 (by decide +kernel) (by decide +kernel), gdL_in 633 (by decide +kernel) (by decide +kernel)⟩
theorem ce_X7_lost : CEE yX7_lost cX7_lost 1 (some .int) 0 := ⟨gdL_in 164 (by decide +kernel) (by decide +kernel), gdL_in 46 (by decide +kernel) (by decide +kernel), by decide +kernel, by decide +kernel, by decide +kernel⟩
theorem cv_X7_lost : CVI yX7_lost := ⟨gdL_in 162 (by decide +kernel) (by decide +kernel), gdL_in 163 (by decide +kernel) (by decide +kernel)⟩
theorem ce_X7_init : CEE yX7_init cX7_init 2 none 0 := ⟨gdL_in 66 (by decide +kernel) (by decide +kernel), gdL_in 46 (by decide +kernel) (by decide +kernel), by decide +kernel, by decide +kernel, by decide +kernel⟩
theorem ci_X7_init : CIN yX7_init := ⟨gdL_in 65 (by decide +kernel) (by decide +kernel), rfl⟩
theorem ce_X8_init : CEE yX8_init cX8_init 2 none 0 := ⟨gdL_in 640 (by decide +kernel) (by decide +kernel), gdL_in 49 (by decide +kernel) (by decide +kernel), by decide +kernel, by decide +kernel, by decide +kernel⟩
theorem ci_X8_init : CIN yX8_init := ⟨gdL_in 639 (by decide +kernel) (by decide +kernel), rfl⟩
theorem ce_X8_thrown : CEE yX8_thrown cX8_thrown 1 (some .int) 0 := ⟨gdL_in 733 (by decide +kernel) (by decide +kernel), gdL_in 49 (by decide +kernel) (by decide +kernel), by decide +kernel, by decide +kernel, by decide +kernel⟩
theorem cv_X8_thrown : CVI yX8_thrown := ⟨gdL_in 731 (by decide +kernel) (by decide +kernel), gdL_in 732 (by decide +kernel) (by decide +kernel)⟩
theorem ce_X8_pattern : CEE yX8_pattern cX8_pattern 5 (some .int) 3 := ⟨gdL_in 737 (by decide +kernel) (by decide +kernel), gdL_in 49 (by decide +kernel) (by decide +kernel), by decide +kernel, by decide +kernel, by decide +kernel⟩
theorem cv_X8_pattern : CVI yX8_pattern := ⟨gdL_in 735 (by decide +kernel) (by decide +kernel), gdL_in 736 (by decide +kernel) (by decide +kernel)⟩
theorem ce_X8_paint : CEE yX8_paint cX8_paint 8 (some .int) 4 := ⟨gdL_in 748 (by decide +kernel) (by decide +kernel), gdL_in 49 (by decide +kernel) (by decide +kernel), by decide +kernel, by decide +kernel, by decide +kernel⟩
theorem cv_X8_paint : CVI yX8_paint := ⟨gdL_in 746 (by decide +kernel) (by decide +kernel), gdL_in 747 (by decide +kernel) (by decide +kernel)⟩
theorem ce_X8_colour : CEE yX8_colour cX8_colour 4 (some .int) 3 := ⟨gdL_in 756 (by decide +kernel) (by decide +kernel), gdL_in 49 (by decide +kernel) (by decide +kernel), by decide +kernel, by decide +kernel, by decide +kernel⟩
theorem cv_X8_colour : CVI yX8_colour := ⟨gdL_in 754 (by decide +kernel) (by decide +kernel), gdL_in 755 (by decide +kernel) (by decide +kernel)⟩
theorem ce_X8_repeat : CEE yX8_repeat cX8_repeat 3 (some .int) 2 := ⟨gdL_in 779 (by decide +kernel) (by decide +kernel), gdL_in 49 (by decide +kernel) (by decide +kernel), by decide +kernel, by decide +kernel, by decide +kernel⟩
theorem cv_X8_repeat : CVI yX8_repeat := ⟨gdL_in 777 (by decide +kernel) (by decide +kernel), gdL_in 778 (by decide +kernel) (by decide +kernel)⟩
theorem ce_X8_repeatAnew : CEE yX8_repeatAnew cX8_repeatAnew 4 (some .int) 2 := ⟨gdL_in 783 (by decide +kernel) (by decide +kernel), gdL_in 49 (by decide +kernel) (by decide +kernel), by decide +kernel, by decide +kernel, by decide +kernel⟩
theorem cv_X8_repeatAnew : CVI yX8_repeatAnew := ⟨gdL_in 781 (by decide +kernel) (by decide +kernel), gdL_in 782 (by decide +kernel) (by decide +kernel)⟩
theorem ce_X8_roller : CEE yX8_roller cX8_roller 7 (some .int) 2 := ⟨gdL_in 791 (by decide +kernel) (by decide +kernel), gdL_in 49 (by decide +kernel) (by decide +kernel), by decide +kernel, by decide +kernel, by decide +kernel⟩
theorem cv_X8_roller : CVI yX8_roller := ⟨gdL_in 789 (by decide +kernel) (by decide +kernel), gdL_in 790 (by decide +kernel) (by decide +kernel)⟩
theorem ce_X8_lot : CEE yX8_lot cX8_lot 7 (some .int) 4 := ⟨gdL_in 795 (by decide +kernel) (by decide +kernel), gdL_in 49 (by decide +kernel) (by decide +kernel), by decide +kernel, by decide +kernel, by decide +kernel⟩
theorem cv_X8_lot : CVI yX8_lot := ⟨gdL_in 793 (by decide +kernel) (by decide +kernel), gdL_in 794 (by decide +kernel) (by decide +kernel)⟩
theorem ce_X8_lotOf : CEE yX8_lotOf cX8_lotOf 4 (some .int) 2 := ⟨gdL_in 799 (by decide +kernel) (by decide +kernel), gdL_in 49 (by decide +kernel) (by decide +kernel), by decide +kernel, by decide +kernel, by decide +kernel⟩
theorem cv_X8_lotOf : CVI yX8_lotOf := ⟨gdL_in 797 (by decide +kernel) (by decide +kernel), gdL_in 798 (by decide +kernel) (by decide +kernel)⟩
theorem ce_X8_wall : CEE yX8_wall cX8_wall 6 (some .int) 3 := ⟨gdL_in 803 (by decide +kernel) (by decide +kernel), gdL_in 49 (by decide +kernel) (by decide +kernel), by decide +kernel, by decide +kernel, by decide +kernel⟩
theorem cv_X8_wall : CVI yX8_wall := ⟨gdL_in 801 (by decide +kernel) (by decide +kernel), gdL_in 802 (by decide +kernel) (by decide +kernel)⟩
theorem ce_X8_hang : CEE yX8_hang cX8_hang 8 (some .int) 2 := ⟨gdL_in 814 (by decide +kernel) (by decide +kernel), gdL_in 49 (by decide +kernel) (by decide +kernel), by decide +kernel, by decide +kernel, by decide +kernel⟩
theorem cv_X8_hang : CVI yX8_hang := ⟨gdL_in 812 (by decide +kernel) (by decide +kernel), gdL_in 813 (by decide +kernel) (by decide +kernel)⟩
theorem ce_X8_lengthen : CEE yX8_lengthen cX8_lengthen 11 (some .int) 3 := ⟨gdL_in 834 (by decide +kernel) (by decide +kernel), gdL_in 49 (by decide +kernel) (by decide +kernel), by decide +kernel, by decide +kernel, by decide +kernel⟩
theorem cv_X8_lengthen : CVI yX8_lengthen := ⟨gdL_in 832 (by decide +kernel) (by decide +kernel), gdL_in 833 (by decide +kernel) (by decide +kernel)⟩
theorem ce_X8_strip : CEE yX8_strip cX8_strip 3 (some .int) 1 := ⟨gdL_in 846 (by decide +kernel) (by decide +kernel), gdL_in 49 (by decide +kernel) (by decide +kernel), by decide +kernel, by decide +kernel, by decide +kernel⟩
theorem cv_X8_strip : CVI yX8_strip := ⟨gdL_in 844 (by decide +kernel) (by decide +kernel), gdL_in 845 (by decide +kernel) (by decide +kernel)⟩
theorem ce_X8_room : CEE yX8_room cX8_room 3 (some .int) 2 := ⟨gdL_in 850 (by decide +kernel) (by decide +kernel), gdL_in 49 (by decide +kernel) (by decide +kernel), by decide +kernel, by decide +kernel, by decide +kernel⟩
theorem cv_X8_room : CVI yX8_room := ⟨gdL_in 848 (by decide +kernel) (by decide +kernel), gdL_in 849 (by decide +kernel) (by decide +kernel)⟩
theorem ce_X8_cut : CEE yX8_cut cX8_cut 6 (some .int) 3 := ⟨gdL_in 858 (by decide +kernel) (by decide +kernel), gdL_in 49 (by decide +kernel) (by decide +kernel), by decide +kernel, by decide +kernel, by decide +kernel⟩
theorem cv_X8_cut : CVI yX8_cut := ⟨gdL_in 856 (by decide +kernel) (by decide +kernel), gdL_in 857 (by decide +kernel) (by decide +kernel)⟩
theorem ce_X8_seen : CEE yX8_seen cX8_seen 10 (some .int) 4 := ⟨gdL_in 862 (by decide +kernel) (by decide +kernel), gdL_in 49 (by decide +kernel) (by decide +kernel), by decide +kernel, by decide +kernel, by decide +kernel⟩
theorem cv_X8_seen : CVI yX8_seen := ⟨gdL_in 860 (by decide +kernel) (by decide +kernel), gdL_in 861 (by decide +kernel) (by decide +kernel)⟩
theorem ce_X8_lost : CEE yX8_lost cX8_lost 1 (some .int) 0 := ⟨gdL_in 866 (by decide +kernel) (by decide +kernel), gdL_in 49 (by decide +kernel) (by decide +kernel), by decide +kernel, by decide +kernel, by decide +kernel⟩
theorem cv_X8_lost : CVI yX8_lost := ⟨gdL_in 864 (by decide +kernel) (by decide +kernel), gdL_in 865 (by decide +kernel) (by decide +kernel)⟩
def rm_L_pattern : Room := { frames := 8, cells := 6, slots := 125, locals := 136 }
def cs_L_pattern : List String := ["java/lang/IllegalArgumentException", "java/lang/IllegalStateException"]
set_option maxRecDepth 100000 in
set_option maxHeartbeats 4000000 in
theorem M_L_pattern {D : va_G} {cA : Nat → ClassId} {h0 : Nat} {l : Launch} (hl : l.stackTraces = false) (a0 : Nat) (x1 : Int32) (x2 : Int32) (x3 : Int32) (a4 : Nat) (hp : hpT) (res : (Int32 ⊕ String) × hpT) (hx7 : ∃ fs, hp.2 a0 = some (.inr (7, fs))) (h : wrap cs_L_pattern (F_X7_pattern a0 x1 x2 x3 hp) a4 = some res) : vx_Met l yL_pattern (wsmW yL_pattern cL_pattern 6 (some .int) [(0, 12, 15, 13), (0, 12, 19, 15)]) rm_L_pattern (va_Pc [va_rf (some a0), .int x1, .int x2, .int x3, va_rf (some a4)] (Pre strL D cA h0 hp)) (QX D cA h0 res) (XN h0) 6 125 (Af h0) := by
  obtain ⟨fs, hx7⟩ := hx7
  refine g_entryW (by decide +kernel) hl (cat_c rfl (cat_c rfl (cat_c rfl (cat_c rfl (cat_c rfl (cat_n)))))) (Nat.le_of_ble_eq_true rfl) (lv := [some (va_rf (some a0)), some (.int x1), some (.int x2), some (.int x3), some (va_rf (some a4)), none]) rfl ?_
  intro p e s m args below meth c K hr hT
  have K : Cx strL D cA h0 p l s m args meth c cL_pattern RL 6 := K
  cases hF : F_X7_pattern a0 x1 x2 x3 hp with
  | none => rw [hF] at h; cases h
  | some r1 =>
    rw [hF] at h
    refine r_aload (pc := 0) K dL_pattern_0 rfl ?_
    refine r_iconst (pc := 2) (v := 0) K dL_pattern_2 (by decide) ?_
    refine r_aload_n (pc := 3) K dL_pattern_3 rfl ?_
    refine r_iload_n (pc := 4) K dL_pattern_4 rfl ?_
    refine r_iload_n (pc := 5) K dL_pattern_5 rfl ?_
    refine r_iload_n (pc := 6) K dL_pattern_6 rfl ?_
    refine c_catch (pc := 7) (st := [.int 0, va_rf (some a4)]) K (run_V (As := [.int x1, .int x2, .int x3]) (b := a0) (ci := 7) (q0 := (RX7, TX7, 8)) K (M_X7_pattern K.2.2.2.2.2.2.1 _ _ _ _ _ _ hF) dL_pattern_7 ce_X7_pattern cv_X7_pattern lk_RL_7 rfl rfl hx7 rfl rfl (by decide) rfl rfl (Nat.le_of_ble_eq_true rfl) (by decide)) (fun E hE => ?_) (fun v hv => ?_)
    · have h1 := wrap_exc h hE
      simp only [cs_L_pattern, wcode] at h1
      by_cases q0 : E = "java/lang/IllegalArgumentException"
      · subst q0
        have h2 : rtv (1 : Int32) r1.2 = some res := by simpa using h1
        refine ⟨[], ⟨0, 12, 15, 13⟩, [⟨0, 12, 19, 15⟩], "java/lang/IllegalArgumentException", hT.trans rfl, (fun z hz => by cases hz), by decide, by decide, cl_RL_13, ca_IllegalArgumentException, fun z q => ?_⟩
        refine r_astore (pc := 15) (lv' := [some (va_rf (some a0)), some (.int x1), some (.int x2), some (.int x3), some (va_rf (some a4)), some (va_rf (some q))]) K dL_pattern_15 (by decide) rfl ?_
        refine r_iconst (pc := 17) (v := 1) K dL_pattern_17 (by decide) ?_
        cases h2
        exact r_ireturnX (pc := 18) K hr dL_pattern_18 rfl rfl (by decide) (by decide)
      · rw [if_neg (fun q => q0 q)] at h1
        by_cases q1 : E = "java/lang/IllegalStateException"
        · subst q1
          have h2 : rtv (2 : Int32) r1.2 = some res := by simpa using h1
          refine ⟨[⟨0, 12, 15, 13⟩], ⟨0, 12, 19, 15⟩, [], "java/lang/IllegalStateException", hT.trans rfl, (fun z hz => by
              simp only [List.mem_cons, List.not_mem_nil, or_false] at hz
              rcases hz with rfl
              · exact Or.inr ⟨by decide, "java/lang/IllegalArgumentException", cl_RL_13, by decide⟩), by decide, by decide, cl_RL_15, ca_IllegalStateException, fun z q => ?_⟩
          refine r_astore (pc := 19) (lv' := [some (va_rf (some a0)), some (.int x1), some (.int x2), some (.int x3), some (va_rf (some a4)), some (va_rf (some q))]) K dL_pattern_19 (by decide) rfl ?_
          refine r_iconst (pc := 21) (v := 2) K dL_pattern_21 (by decide) ?_
          cases h2
          exact r_ireturnX (pc := 22) K hr dL_pattern_22 rfl rfl (by decide) (by decide)
        · rw [if_neg (fun q => q1 q)] at h1
          cases h1
    · have h1 := wrap_val h hv
      refine r_i2l (pc := 10) K dL_pattern_10 ?_
      refine r_last (pc := 11) K dL_pattern_11 h1 (fun h5 h2 => ?_)
      refine r_goto (pc := 12) (tgt := 23) K dL_pattern_12 (by decide) ?_
      refine r_iconst (pc := 23) (v := 0) K dL_pattern_23 (by decide) ?_
      cases h2
      exact r_ireturnX (pc := 24) K hr dL_pattern_24 rfl rfl (by decide) (by decide)
def rm_L_paint : Room := { frames := 8, cells := 2, slots := 12, locals := 138 }
def cs_L_paint : List String := ["java/lang/IndexOutOfBoundsException", "java/lang/IllegalArgumentException"]
set_option maxRecDepth 100000 in
set_option maxHeartbeats 4000000 in
theorem M_L_paint {D : va_G} {cA : Nat → ClassId} {h0 : Nat} {l : Launch} (hl : l.stackTraces = false) (a0 : Nat) (x1 : Int32) (x2 : Int32) (x3 : Int32) (x4 : Int32) (a5 : Nat) (hp : hpT) (res : (Int32 ⊕ String) × hpT) (hx7 : ∃ fs, hp.2 a0 = some (.inr (7, fs))) (h : wrap cs_L_paint (F_X7_paint a0 x1 x2 x3 x4 hp) a5 = some res) : vx_Met l yL_paint (wsmW yL_paint cL_paint 7 (some .int) [(0, 14, 17, 21), (0, 14, 21, 13)]) rm_L_paint (va_Pc [va_rf (some a0), .int x1, .int x2, .int x3, .int x4, va_rf (some a5)] (Pre strL D cA h0 hp)) (QX D cA h0 res) (XN h0) 2 12 (Af h0) := by
  obtain ⟨fs, hx7⟩ := hx7
  refine g_entryW (by decide +kernel) hl (cat_c rfl (cat_c rfl (cat_c rfl (cat_c rfl (cat_c rfl (cat_c rfl (cat_n))))))) (Nat.le_of_ble_eq_true rfl) (lv := [some (va_rf (some a0)), some (.int x1), some (.int x2), some (.int x3), some (.int x4), some (va_rf (some a5)), none]) rfl ?_
  intro p e s m args below meth c K hr hT
  have K : Cx strL D cA h0 p l s m args meth c cL_paint RL 7 := K
  cases hF : F_X7_paint a0 x1 x2 x3 x4 hp with
  | none => rw [hF] at h; cases h
  | some r1 =>
    rw [hF] at h
    refine r_aload (pc := 0) K dL_paint_0 rfl ?_
    refine r_iconst (pc := 2) (v := 0) K dL_paint_2 (by decide) ?_
    refine r_aload_n (pc := 3) K dL_paint_3 rfl ?_
    refine r_iload_n (pc := 4) K dL_paint_4 rfl ?_
    refine r_iload_n (pc := 5) K dL_paint_5 rfl ?_
    refine r_iload_n (pc := 6) K dL_paint_6 rfl ?_
    refine r_iload (pc := 7) K dL_paint_7 rfl ?_
    refine c_catch (pc := 9) (st := [.int 0, va_rf (some a5)]) K (run_V (As := [.int x1, .int x2, .int x3, .int x4]) (b := a0) (ci := 7) (q0 := (RX7, TX7, 8)) K (M_X7_paint K.2.2.2.2.2.2.1 _ _ _ _ _ _ _ hF) dL_paint_9 ce_X7_paint cv_X7_paint lk_RL_17 rfl rfl hx7 rfl rfl (by decide) rfl rfl (Nat.le_of_ble_eq_true rfl) (by decide)) (fun E hE => ?_) (fun v hv => ?_)
    · have h1 := wrap_exc h hE
      simp only [cs_L_paint, wcode] at h1
      by_cases q0 : E = "java/lang/IndexOutOfBoundsException"
      · subst q0
        have h2 : rtv (1 : Int32) r1.2 = some res := by simpa using h1
        refine ⟨[], ⟨0, 14, 17, 21⟩, [⟨0, 14, 21, 13⟩], "java/lang/IndexOutOfBoundsException", hT.trans rfl, (fun z hz => by cases hz), by decide, by decide, cl_RL_21, ca_IndexOutOfBoundsException, fun z q => ?_⟩
        refine r_astore (pc := 17) (lv' := [some (va_rf (some a0)), some (.int x1), some (.int x2), some (.int x3), some (.int x4), some (va_rf (some a5)), some (va_rf (some q))]) K dL_paint_17 (by decide) rfl ?_
        refine r_iconst (pc := 19) (v := 1) K dL_paint_19 (by decide) ?_
        cases h2
        exact r_ireturnX (pc := 20) K hr dL_paint_20 rfl rfl (by decide) (by decide)
      · rw [if_neg (fun q => q0 q)] at h1
        by_cases q1 : E = "java/lang/IllegalArgumentException"
        · subst q1
          have h2 : rtv (2 : Int32) r1.2 = some res := by simpa using h1
          refine ⟨[⟨0, 14, 17, 21⟩], ⟨0, 14, 21, 13⟩, [], "java/lang/IllegalArgumentException", hT.trans rfl, (fun z hz => by
              simp only [List.mem_cons, List.not_mem_nil, or_false] at hz
              rcases hz with rfl
              · exact Or.inr ⟨by decide, "java/lang/IndexOutOfBoundsException", cl_RL_21, by decide⟩), by decide, by decide, cl_RL_13, ca_IllegalArgumentException, fun z q => ?_⟩
          refine r_astore (pc := 21) (lv' := [some (va_rf (some a0)), some (.int x1), some (.int x2), some (.int x3), some (.int x4), some (va_rf (some a5)), some (va_rf (some q))]) K dL_paint_21 (by decide) rfl ?_
          refine r_iconst (pc := 23) (v := 2) K dL_paint_23 (by decide) ?_
          cases h2
          exact r_ireturnX (pc := 24) K hr dL_paint_24 rfl rfl (by decide) (by decide)
        · rw [if_neg (fun q => q1 q)] at h1
          cases h1
    · have h1 := wrap_val h hv
      refine r_i2l (pc := 12) K dL_paint_12 ?_
      refine r_last (pc := 13) K dL_paint_13 h1 (fun h5 h2 => ?_)
      refine r_goto (pc := 14) (tgt := 25) K dL_paint_14 (by decide) ?_
      refine r_iconst (pc := 25) (v := 0) K dL_paint_25 (by decide) ?_
      cases h2
      exact r_ireturnX (pc := 26) K hr dL_paint_26 rfl rfl (by decide) (by decide)
def rm_L_colour : Room := { frames := 8, cells := 1, slots := 6, locals := 135 }
def cs_L_colour : List String := ["java/lang/IndexOutOfBoundsException"]
set_option maxRecDepth 100000 in
set_option maxHeartbeats 4000000 in
theorem M_L_colour {D : va_G} {cA : Nat → ClassId} {h0 : Nat} {l : Launch} (hl : l.stackTraces = false) (a0 : Nat) (x1 : Int32) (x2 : Int32) (x3 : Int32) (a4 : Nat) (hp : hpT) (res : (Int32 ⊕ String) × hpT) (hx7 : ∃ fs, hp.2 a0 = some (.inr (7, fs))) (h : wrap cs_L_colour (F_X7_colour a0 x1 x2 x3 hp) a4 = some res) : vx_Met l yL_colour (wsmW yL_colour cL_colour 6 (some .int) [(0, 12, 15, 21)]) rm_L_colour (va_Pc [va_rf (some a0), .int x1, .int x2, .int x3, va_rf (some a4)] (Pre strL D cA h0 hp)) (QX D cA h0 res) (XN h0) 1 6 (Af h0) := by
  obtain ⟨fs, hx7⟩ := hx7
  refine g_entryW (by decide +kernel) hl (cat_c rfl (cat_c rfl (cat_c rfl (cat_c rfl (cat_c rfl (cat_n)))))) (Nat.le_of_ble_eq_true rfl) (lv := [some (va_rf (some a0)), some (.int x1), some (.int x2), some (.int x3), some (va_rf (some a4)), none]) rfl ?_
  intro p e s m args below meth c K hr hT
  have K : Cx strL D cA h0 p l s m args meth c cL_colour RL 6 := K
  cases hF : F_X7_colour a0 x1 x2 x3 hp with
  | none => rw [hF] at h; cases h
  | some r1 =>
    rw [hF] at h
    refine r_aload (pc := 0) K dL_colour_0 rfl ?_
    refine r_iconst (pc := 2) (v := 0) K dL_colour_2 (by decide) ?_
    refine r_aload_n (pc := 3) K dL_colour_3 rfl ?_
    refine r_iload_n (pc := 4) K dL_colour_4 rfl ?_
    refine r_iload_n (pc := 5) K dL_colour_5 rfl ?_
    refine r_iload_n (pc := 6) K dL_colour_6 rfl ?_
    refine c_catch (pc := 7) (st := [.int 0, va_rf (some a4)]) K (run_V (As := [.int x1, .int x2, .int x3]) (b := a0) (ci := 7) (q0 := (RX7, TX7, 8)) K (M_X7_colour K.2.2.2.2.2.2.1 _ _ _ _ _ _ hF) dL_colour_7 ce_X7_colour cv_X7_colour lk_RL_23 rfl rfl hx7 rfl rfl (by decide) rfl rfl (Nat.le_of_ble_eq_true rfl) (by decide)) (fun E hE => ?_) (fun v hv => ?_)
    · have h1 := wrap_exc h hE
      simp only [cs_L_colour, wcode] at h1
      by_cases q0 : E = "java/lang/IndexOutOfBoundsException"
      · subst q0
        have h2 : rtv (1 : Int32) r1.2 = some res := by simpa using h1
        refine ⟨[], ⟨0, 12, 15, 21⟩, [], "java/lang/IndexOutOfBoundsException", hT.trans rfl, (fun z hz => by cases hz), by decide, by decide, cl_RL_21, ca_IndexOutOfBoundsException, fun z q => ?_⟩
        refine r_astore (pc := 15) (lv' := [some (va_rf (some a0)), some (.int x1), some (.int x2), some (.int x3), some (va_rf (some a4)), some (va_rf (some q))]) K dL_colour_15 (by decide) rfl ?_
        refine r_iconst (pc := 17) (v := 1) K dL_colour_17 (by decide) ?_
        cases h2
        exact r_ireturnX (pc := 18) K hr dL_colour_18 rfl rfl (by decide) (by decide)
      · rw [if_neg (fun q => q0 q)] at h1
        cases h1
    · have h1 := wrap_val h hv
      refine r_i2l (pc := 10) K dL_colour_10 ?_
      refine r_last (pc := 11) K dL_colour_11 h1 (fun h5 h2 => ?_)
      refine r_goto (pc := 12) (tgt := 19) K dL_colour_12 (by decide) ?_
      refine r_iconst (pc := 19) (v := 0) K dL_colour_19 (by decide) ?_
      cases h2
      exact r_ireturnX (pc := 20) K hr dL_colour_20 rfl rfl (by decide) (by decide)
def rm_L_repeat : Room := { frames := 8, cells := 1, slots := 6, locals := 135 }
def cs_L_repeat : List String := ["java/lang/IndexOutOfBoundsException"]
set_option maxRecDepth 100000 in
set_option maxHeartbeats 4000000 in
theorem M_L_repeat {D : va_G} {cA : Nat → ClassId} {h0 : Nat} {l : Launch} (hl : l.stackTraces = false) (a0 : Nat) (x1 : Int32) (x2 : Int32) (a3 : Nat) (hp : hpT) (res : (Int32 ⊕ String) × hpT) (hx7 : ∃ fs, hp.2 a0 = some (.inr (7, fs))) (h : wrap cs_L_repeat (F_X7_repeat a0 x1 x2 hp) a3 = some res) : vx_Met l yL_repeat (wsmW yL_repeat cL_repeat 5 (some .int) [(0, 10, 13, 21)]) rm_L_repeat (va_Pc [va_rf (some a0), .int x1, .int x2, va_rf (some a3)] (Pre strL D cA h0 hp)) (QX D cA h0 res) (XN h0) 1 6 (Af h0) := by
  obtain ⟨fs, hx7⟩ := hx7
  refine g_entryW (by decide +kernel) hl (cat_c rfl (cat_c rfl (cat_c rfl (cat_c rfl (cat_n))))) (Nat.le_of_ble_eq_true rfl) (lv := [some (va_rf (some a0)), some (.int x1), some (.int x2), some (va_rf (some a3)), none]) rfl ?_
  intro p e s m args below meth c K hr hT
  have K : Cx strL D cA h0 p l s m args meth c cL_repeat RL 5 := K
  cases hF : F_X7_repeat a0 x1 x2 hp with
  | none => rw [hF] at h; cases h
  | some r1 =>
    rw [hF] at h
    refine r_aload_n (pc := 0) K dL_repeat_0 rfl ?_
    refine r_iconst (pc := 1) (v := 0) K dL_repeat_1 (by decide) ?_
    refine r_aload_n (pc := 2) K dL_repeat_2 rfl ?_
    refine r_iload_n (pc := 3) K dL_repeat_3 rfl ?_
    refine r_iload_n (pc := 4) K dL_repeat_4 rfl ?_
    refine c_catch (pc := 5) (st := [.int 0, va_rf (some a3)]) K (run_V (As := [.int x1, .int x2]) (b := a0) (ci := 7) (q0 := (RX7, TX7, 8)) K (M_X7_repeat K.2.2.2.2.2.2.1 _ _ _ _ _ hF) dL_repeat_5 ce_X7_repeat cv_X7_repeat lk_RL_26 rfl rfl hx7 rfl rfl (by decide) rfl rfl (Nat.le_of_ble_eq_true rfl) (by decide)) (fun E hE => ?_) (fun v hv => ?_)
    · have h1 := wrap_exc h hE
      simp only [cs_L_repeat, wcode] at h1
      by_cases q0 : E = "java/lang/IndexOutOfBoundsException"
      · subst q0
        have h2 : rtv (1 : Int32) r1.2 = some res := by simpa using h1
        refine ⟨[], ⟨0, 10, 13, 21⟩, [], "java/lang/IndexOutOfBoundsException", hT.trans rfl, (fun z hz => by cases hz), by decide, by decide, cl_RL_21, ca_IndexOutOfBoundsException, fun z q => ?_⟩
        refine r_astore (pc := 13) (lv' := [some (va_rf (some a0)), some (.int x1), some (.int x2), some (va_rf (some a3)), some (va_rf (some q))]) K dL_repeat_13 (by decide) rfl ?_
        refine r_iconst (pc := 15) (v := 1) K dL_repeat_15 (by decide) ?_
        cases h2
        exact r_ireturnX (pc := 16) K hr dL_repeat_16 rfl rfl (by decide) (by decide)
      · rw [if_neg (fun q => q0 q)] at h1
        cases h1
    · have h1 := wrap_val h hv
      refine r_i2l (pc := 8) K dL_repeat_8 ?_
      refine r_last (pc := 9) K dL_repeat_9 h1 (fun h5 h2 => ?_)
      refine r_goto (pc := 10) (tgt := 17) K dL_repeat_10 (by decide) ?_
      refine r_iconst (pc := 17) (v := 0) K dL_repeat_17 (by decide) ?_
      cases h2
      exact r_ireturnX (pc := 18) K hr dL_repeat_18 rfl rfl (by decide) (by decide)
def rm_L_repeatAnew : Room := { frames := 8, cells := 1, slots := 6, locals := 163 }
def cs_L_repeatAnew : List String := ["java/lang/IndexOutOfBoundsException"]
set_option maxRecDepth 100000 in
set_option maxHeartbeats 4000000 in
theorem M_L_repeatAnew {D : va_G} {cA : Nat → ClassId} {h0 : Nat} {l : Launch} (hl : l.stackTraces = false) (a0 : Nat) (x1 : Int32) (x2 : Int32) (a3 : Nat) (hp : hpT) (res : (Int32 ⊕ String) × hpT) (hx7 : ∃ fs, hp.2 a0 = some (.inr (7, fs))) (h : wrap cs_L_repeatAnew (F_X7_repeatAnew a0 x1 x2 hp) a3 = some res) : vx_Met l yL_repeatAnew (wsmW yL_repeatAnew cL_repeatAnew 5 (some .int) [(0, 10, 13, 21)]) rm_L_repeatAnew (va_Pc [va_rf (some a0), .int x1, .int x2, va_rf (some a3)] (Pre strL D cA h0 hp)) (QX D cA h0 res) (XN h0) 1 6 (Af h0) := by
  obtain ⟨fs, hx7⟩ := hx7
  refine g_entryW (by decide +kernel) hl (cat_c rfl (cat_c rfl (cat_c rfl (cat_c rfl (cat_n))))) (Nat.le_of_ble_eq_true rfl) (lv := [some (va_rf (some a0)), some (.int x1), some (.int x2), some (va_rf (some a3)), none]) rfl ?_
  intro p e s m args below meth c K hr hT
  have K : Cx strL D cA h0 p l s m args meth c cL_repeatAnew RL 5 := K
  cases hF : F_X7_repeatAnew a0 x1 x2 hp with
  | none => rw [hF] at h; cases h
  | some r1 =>
    rw [hF] at h
    refine r_aload_n (pc := 0) K dL_repeatAnew_0 rfl ?_
    refine r_iconst (pc := 1) (v := 0) K dL_repeatAnew_1 (by decide) ?_
    refine r_aload_n (pc := 2) K dL_repeatAnew_2 rfl ?_
    refine r_iload_n (pc := 3) K dL_repeatAnew_3 rfl ?_
    refine r_iload_n (pc := 4) K dL_repeatAnew_4 rfl ?_
    refine c_catch (pc := 5) (st := [.int 0, va_rf (some a3)]) K (run_V (As := [.int x1, .int x2]) (b := a0) (ci := 7) (q0 := (RX7, TX7, 8)) K (M_X7_repeatAnew K.2.2.2.2.2.2.1 _ _ _ _ _ hF) dL_repeatAnew_5 ce_X7_repeatAnew cv_X7_repeatAnew lk_RL_30 rfl rfl hx7 rfl rfl (by decide) rfl rfl (Nat.le_of_ble_eq_true rfl) (by decide)) (fun E hE => ?_) (fun v hv => ?_)
    · have h1 := wrap_exc h hE
      simp only [cs_L_repeatAnew, wcode] at h1
      by_cases q0 : E = "java/lang/IndexOutOfBoundsException"
      · subst q0
        have h2 : rtv (1 : Int32) r1.2 = some res := by simpa using h1
        refine ⟨[], ⟨0, 10, 13, 21⟩, [], "java/lang/IndexOutOfBoundsException", hT.trans rfl, (fun z hz => by cases hz), by decide, by decide, cl_RL_21, ca_IndexOutOfBoundsException, fun z q => ?_⟩
        refine r_astore (pc := 13) (lv' := [some (va_rf (some a0)), some (.int x1), some (.int x2), some (va_rf (some a3)), some (va_rf (some q))]) K dL_repeatAnew_13 (by decide) rfl ?_
        refine r_iconst (pc := 15) (v := 1) K dL_repeatAnew_15 (by decide) ?_
        cases h2
        exact r_ireturnX (pc := 16) K hr dL_repeatAnew_16 rfl rfl (by decide) (by decide)
      · rw [if_neg (fun q => q0 q)] at h1
        cases h1
    · have h1 := wrap_val h hv
      refine r_i2l (pc := 8) K dL_repeatAnew_8 ?_
      refine r_last (pc := 9) K dL_repeatAnew_9 h1 (fun h5 h2 => ?_)
      refine r_goto (pc := 10) (tgt := 17) K dL_repeatAnew_10 (by decide) ?_
      refine r_iconst (pc := 17) (v := 0) K dL_repeatAnew_17 (by decide) ?_
      cases h2
      exact r_ireturnX (pc := 18) K hr dL_repeatAnew_18 rfl rfl (by decide) (by decide)
def rm_L_roller : Room := { frames := 8, cells := 5, slots := 117, locals := 141 }
def cs_L_roller : List String := ["java/lang/IndexOutOfBoundsException", "java/lang/IllegalArgumentException", "java/lang/IllegalStateException"]
set_option maxRecDepth 100000 in
set_option maxHeartbeats 4000000 in
theorem M_L_roller {D : va_G} {cA : Nat → ClassId} {h0 : Nat} {l : Launch} (hl : l.stackTraces = false) (a0 : Nat) (x1 : Int32) (x2 : Int32) (a3 : Nat) (hp : hpT) (res : (Int32 ⊕ String) × hpT) (hx7 : ∃ fs, hp.2 a0 = some (.inr (7, fs))) (h : wrap cs_L_roller (F_X7_roller a0 x1 x2 hp) a3 = some res) : vx_Met l yL_roller (wsmW yL_roller cL_roller 5 (some .int) [(0, 10, 13, 21), (0, 10, 17, 13), (0, 10, 21, 15)]) rm_L_roller (va_Pc [va_rf (some a0), .int x1, .int x2, va_rf (some a3)] (Pre strL D cA h0 hp)) (QX D cA h0 res) (XN h0) 5 117 (Af h0) := by
  obtain ⟨fs, hx7⟩ := hx7
  refine g_entryW (by decide +kernel) hl (cat_c rfl (cat_c rfl (cat_c rfl (cat_c rfl (cat_n))))) (Nat.le_of_ble_eq_true rfl) (lv := [some (va_rf (some a0)), some (.int x1), some (.int x2), some (va_rf (some a3)), none]) rfl ?_
  intro p e s m args below meth c K hr hT
  have K : Cx strL D cA h0 p l s m args meth c cL_roller RL 5 := K
  cases hF : F_X7_roller a0 x1 x2 hp with
  | none => rw [hF] at h; cases h
  | some r1 =>
    rw [hF] at h
    refine r_aload_n (pc := 0) K dL_roller_0 rfl ?_
    refine r_iconst (pc := 1) (v := 0) K dL_roller_1 (by decide) ?_
    refine r_aload_n (pc := 2) K dL_roller_2 rfl ?_
    refine r_iload_n (pc := 3) K dL_roller_3 rfl ?_
    refine r_iload_n (pc := 4) K dL_roller_4 rfl ?_
    refine c_catch (pc := 5) (st := [.int 0, va_rf (some a3)]) K (run_V (As := [.int x1, .int x2]) (b := a0) (ci := 7) (q0 := (RX7, TX7, 8)) K (M_X7_roller K.2.2.2.2.2.2.1 _ _ _ _ _ hF) dL_roller_5 ce_X7_roller cv_X7_roller lk_RL_33 rfl rfl hx7 rfl rfl (by decide) rfl rfl (Nat.le_of_ble_eq_true rfl) (by decide)) (fun E hE => ?_) (fun v hv => ?_)
    · have h1 := wrap_exc h hE
      simp only [cs_L_roller, wcode] at h1
      by_cases q0 : E = "java/lang/IndexOutOfBoundsException"
      · subst q0
        have h2 : rtv (1 : Int32) r1.2 = some res := by simpa using h1
        refine ⟨[], ⟨0, 10, 13, 21⟩, [⟨0, 10, 17, 13⟩, ⟨0, 10, 21, 15⟩], "java/lang/IndexOutOfBoundsException", hT.trans rfl, (fun z hz => by cases hz), by decide, by decide, cl_RL_21, ca_IndexOutOfBoundsException, fun z q => ?_⟩
        refine r_astore (pc := 13) (lv' := [some (va_rf (some a0)), some (.int x1), some (.int x2), some (va_rf (some a3)), some (va_rf (some q))]) K dL_roller_13 (by decide) rfl ?_
        refine r_iconst (pc := 15) (v := 1) K dL_roller_15 (by decide) ?_
        cases h2
        exact r_ireturnX (pc := 16) K hr dL_roller_16 rfl rfl (by decide) (by decide)
      · rw [if_neg (fun q => q0 q)] at h1
        by_cases q1 : E = "java/lang/IllegalArgumentException"
        · subst q1
          have h2 : rtv (2 : Int32) r1.2 = some res := by simpa using h1
          refine ⟨[⟨0, 10, 13, 21⟩], ⟨0, 10, 17, 13⟩, [⟨0, 10, 21, 15⟩], "java/lang/IllegalArgumentException", hT.trans rfl, (fun z hz => by
              simp only [List.mem_cons, List.not_mem_nil, or_false] at hz
              rcases hz with rfl
              · exact Or.inr ⟨by decide, "java/lang/IndexOutOfBoundsException", cl_RL_21, by decide⟩), by decide, by decide, cl_RL_13, ca_IllegalArgumentException, fun z q => ?_⟩
          refine r_astore (pc := 17) (lv' := [some (va_rf (some a0)), some (.int x1), some (.int x2), some (va_rf (some a3)), some (va_rf (some q))]) K dL_roller_17 (by decide) rfl ?_
          refine r_iconst (pc := 19) (v := 2) K dL_roller_19 (by decide) ?_
          cases h2
          exact r_ireturnX (pc := 20) K hr dL_roller_20 rfl rfl (by decide) (by decide)
        · rw [if_neg (fun q => q1 q)] at h1
          by_cases q2 : E = "java/lang/IllegalStateException"
          · subst q2
            have h2 : rtv (3 : Int32) r1.2 = some res := by simpa using h1
            refine ⟨[⟨0, 10, 13, 21⟩, ⟨0, 10, 17, 13⟩], ⟨0, 10, 21, 15⟩, [], "java/lang/IllegalStateException", hT.trans rfl, (fun z hz => by
                simp only [List.mem_cons, List.not_mem_nil, or_false] at hz
                rcases hz with rfl | rfl
                · exact Or.inr ⟨by decide, "java/lang/IndexOutOfBoundsException", cl_RL_21, by decide⟩
                · exact Or.inr ⟨by decide, "java/lang/IllegalArgumentException", cl_RL_13, by decide⟩), by decide, by decide, cl_RL_15, ca_IllegalStateException, fun z q => ?_⟩
            refine r_astore (pc := 21) (lv' := [some (va_rf (some a0)), some (.int x1), some (.int x2), some (va_rf (some a3)), some (va_rf (some q))]) K dL_roller_21 (by decide) rfl ?_
            refine r_iconst (pc := 23) (v := 3) K dL_roller_23 (by decide) ?_
            cases h2
            exact r_ireturnX (pc := 24) K hr dL_roller_24 rfl rfl (by decide) (by decide)
          · rw [if_neg (fun q => q2 q)] at h1
            cases h1
    · have h1 := wrap_val h hv
      refine r_i2l (pc := 8) K dL_roller_8 ?_
      refine r_last (pc := 9) K dL_roller_9 h1 (fun h5 h2 => ?_)
      refine r_goto (pc := 10) (tgt := 25) K dL_roller_10 (by decide) ?_
      refine r_iconst (pc := 25) (v := 0) K dL_roller_25 (by decide) ?_
      cases h2
      exact r_ireturnX (pc := 26) K hr dL_roller_26 rfl rfl (by decide) (by decide)
def rm_L_lot : Room := { frames := 8, cells := 5, slots := 30, locals := 138 }
def cs_L_lot : List String := ["java/lang/IndexOutOfBoundsException", "java/lang/IllegalArgumentException", "java/lang/IllegalStateException"]
set_option maxRecDepth 100000 in
set_option maxHeartbeats 4000000 in
theorem M_L_lot {D : va_G} {cA : Nat → ClassId} {h0 : Nat} {l : Launch} (hl : l.stackTraces = false) (a0 : Nat) (x1 : Int32) (x2 : Int32) (x3 : Int32) (x4 : Int32) (a5 : Nat) (hp : hpT) (res : (Int32 ⊕ String) × hpT) (hx7 : ∃ fs, hp.2 a0 = some (.inr (7, fs))) (h : wrap cs_L_lot (F_X7_lot a0 x1 x2 x3 x4 hp) a5 = some res) : vx_Met l yL_lot (wsmW yL_lot cL_lot 7 (some .int) [(0, 14, 17, 21), (0, 14, 21, 13), (0, 14, 25, 15)]) rm_L_lot (va_Pc [va_rf (some a0), .int x1, .int x2, .int x3, .int x4, va_rf (some a5)] (Pre strL D cA h0 hp)) (QX D cA h0 res) (XN h0) 5 30 (Af h0) := by
  obtain ⟨fs, hx7⟩ := hx7
  refine g_entryW (by decide +kernel) hl (cat_c rfl (cat_c rfl (cat_c rfl (cat_c rfl (cat_c rfl (cat_c rfl (cat_n))))))) (Nat.le_of_ble_eq_true rfl) (lv := [some (va_rf (some a0)), some (.int x1), some (.int x2), some (.int x3), some (.int x4), some (va_rf (some a5)), none]) rfl ?_
  intro p e s m args below meth c K hr hT
  have K : Cx strL D cA h0 p l s m args meth c cL_lot RL 7 := K
  cases hF : F_X7_lot a0 x1 x2 x3 x4 hp with
  | none => rw [hF] at h; cases h
  | some r1 =>
    rw [hF] at h
    refine r_aload (pc := 0) K dL_lot_0 rfl ?_
    refine r_iconst (pc := 2) (v := 0) K dL_lot_2 (by decide) ?_
    refine r_aload_n (pc := 3) K dL_lot_3 rfl ?_
    refine r_iload_n (pc := 4) K dL_lot_4 rfl ?_
    refine r_iload_n (pc := 5) K dL_lot_5 rfl ?_
    refine r_iload_n (pc := 6) K dL_lot_6 rfl ?_
    refine r_iload (pc := 7) K dL_lot_7 rfl ?_
    refine c_catch (pc := 9) (st := [.int 0, va_rf (some a5)]) K (run_V (As := [.int x1, .int x2, .int x3, .int x4]) (b := a0) (ci := 7) (q0 := (RX7, TX7, 8)) K (M_X7_lot K.2.2.2.2.2.2.1 _ _ _ _ _ _ _ hF) dL_lot_9 ce_X7_lot cv_X7_lot lk_RL_37 rfl rfl hx7 rfl rfl (by decide) rfl rfl (Nat.le_of_ble_eq_true rfl) (by decide)) (fun E hE => ?_) (fun v hv => ?_)
    · have h1 := wrap_exc h hE
      simp only [cs_L_lot, wcode] at h1
      by_cases q0 : E = "java/lang/IndexOutOfBoundsException"
      · subst q0
        have h2 : rtv (1 : Int32) r1.2 = some res := by simpa using h1
        refine ⟨[], ⟨0, 14, 17, 21⟩, [⟨0, 14, 21, 13⟩, ⟨0, 14, 25, 15⟩], "java/lang/IndexOutOfBoundsException", hT.trans rfl, (fun z hz => by cases hz), by decide, by decide, cl_RL_21, ca_IndexOutOfBoundsException, fun z q => ?_⟩
        refine r_astore (pc := 17) (lv' := [some (va_rf (some a0)), some (.int x1), some (.int x2), some (.int x3), some (.int x4), some (va_rf (some a5)), some (va_rf (some q))]) K dL_lot_17 (by decide) rfl ?_
        refine r_iconst (pc := 19) (v := 1) K dL_lot_19 (by decide) ?_
        cases h2
        exact r_ireturnX (pc := 20) K hr dL_lot_20 rfl rfl (by decide) (by decide)
      · rw [if_neg (fun q => q0 q)] at h1
        by_cases q1 : E = "java/lang/IllegalArgumentException"
        · subst q1
          have h2 : rtv (2 : Int32) r1.2 = some res := by simpa using h1
          refine ⟨[⟨0, 14, 17, 21⟩], ⟨0, 14, 21, 13⟩, [⟨0, 14, 25, 15⟩], "java/lang/IllegalArgumentException", hT.trans rfl, (fun z hz => by
              simp only [List.mem_cons, List.not_mem_nil, or_false] at hz
              rcases hz with rfl
              · exact Or.inr ⟨by decide, "java/lang/IndexOutOfBoundsException", cl_RL_21, by decide⟩), by decide, by decide, cl_RL_13, ca_IllegalArgumentException, fun z q => ?_⟩
          refine r_astore (pc := 21) (lv' := [some (va_rf (some a0)), some (.int x1), some (.int x2), some (.int x3), some (.int x4), some (va_rf (some a5)), some (va_rf (some q))]) K dL_lot_21 (by decide) rfl ?_
          refine r_iconst (pc := 23) (v := 2) K dL_lot_23 (by decide) ?_
          cases h2
          exact r_ireturnX (pc := 24) K hr dL_lot_24 rfl rfl (by decide) (by decide)
        · rw [if_neg (fun q => q1 q)] at h1
          by_cases q2 : E = "java/lang/IllegalStateException"
          · subst q2
            have h2 : rtv (3 : Int32) r1.2 = some res := by simpa using h1
            refine ⟨[⟨0, 14, 17, 21⟩, ⟨0, 14, 21, 13⟩], ⟨0, 14, 25, 15⟩, [], "java/lang/IllegalStateException", hT.trans rfl, (fun z hz => by
                simp only [List.mem_cons, List.not_mem_nil, or_false] at hz
                rcases hz with rfl | rfl
                · exact Or.inr ⟨by decide, "java/lang/IndexOutOfBoundsException", cl_RL_21, by decide⟩
                · exact Or.inr ⟨by decide, "java/lang/IllegalArgumentException", cl_RL_13, by decide⟩), by decide, by decide, cl_RL_15, ca_IllegalStateException, fun z q => ?_⟩
            refine r_astore (pc := 25) (lv' := [some (va_rf (some a0)), some (.int x1), some (.int x2), some (.int x3), some (.int x4), some (va_rf (some a5)), some (va_rf (some q))]) K dL_lot_25 (by decide) rfl ?_
            refine r_iconst (pc := 27) (v := 3) K dL_lot_27 (by decide) ?_
            cases h2
            exact r_ireturnX (pc := 28) K hr dL_lot_28 rfl rfl (by decide) (by decide)
          · rw [if_neg (fun q => q2 q)] at h1
            cases h1
    · have h1 := wrap_val h hv
      refine r_i2l (pc := 12) K dL_lot_12 ?_
      refine r_last (pc := 13) K dL_lot_13 h1 (fun h5 h2 => ?_)
      refine r_goto (pc := 14) (tgt := 29) K dL_lot_14 (by decide) ?_
      refine r_iconst (pc := 29) (v := 0) K dL_lot_29 (by decide) ?_
      cases h2
      exact r_ireturnX (pc := 30) K hr dL_lot_30 rfl rfl (by decide) (by decide)
def rm_L_lotOf : Room := { frames := 8, cells := 2, slots := 12, locals := 135 }
def cs_L_lotOf : List String := ["java/lang/IndexOutOfBoundsException", "java/lang/IllegalArgumentException"]
set_option maxRecDepth 100000 in
set_option maxHeartbeats 4000000 in
theorem M_L_lotOf {D : va_G} {cA : Nat → ClassId} {h0 : Nat} {l : Launch} (hl : l.stackTraces = false) (a0 : Nat) (x1 : Int32) (x2 : Int32) (a3 : Nat) (hp : hpT) (res : (Int32 ⊕ String) × hpT) (hx7 : ∃ fs, hp.2 a0 = some (.inr (7, fs))) (h : wrap cs_L_lotOf (F_X7_lotOf a0 x1 x2 hp) a3 = some res) : vx_Met l yL_lotOf (wsmW yL_lotOf cL_lotOf 5 (some .int) [(0, 10, 13, 21), (0, 10, 17, 13)]) rm_L_lotOf (va_Pc [va_rf (some a0), .int x1, .int x2, va_rf (some a3)] (Pre strL D cA h0 hp)) (QX D cA h0 res) (XN h0) 2 12 (Af h0) := by
  obtain ⟨fs, hx7⟩ := hx7
  refine g_entryW (by decide +kernel) hl (cat_c rfl (cat_c rfl (cat_c rfl (cat_c rfl (cat_n))))) (Nat.le_of_ble_eq_true rfl) (lv := [some (va_rf (some a0)), some (.int x1), some (.int x2), some (va_rf (some a3)), none]) rfl ?_
  intro p e s m args below meth c K hr hT
  have K : Cx strL D cA h0 p l s m args meth c cL_lotOf RL 5 := K
  cases hF : F_X7_lotOf a0 x1 x2 hp with
  | none => rw [hF] at h; cases h
  | some r1 =>
    rw [hF] at h
    refine r_aload_n (pc := 0) K dL_lotOf_0 rfl ?_
    refine r_iconst (pc := 1) (v := 0) K dL_lotOf_1 (by decide) ?_
    refine r_aload_n (pc := 2) K dL_lotOf_2 rfl ?_
    refine r_iload_n (pc := 3) K dL_lotOf_3 rfl ?_
    refine r_iload_n (pc := 4) K dL_lotOf_4 rfl ?_
    refine c_catch (pc := 5) (st := [.int 0, va_rf (some a3)]) K (run_V (As := [.int x1, .int x2]) (b := a0) (ci := 7) (q0 := (RX7, TX7, 8)) K (M_X7_lotOf K.2.2.2.2.2.2.1 _ _ _ _ _ hF) dL_lotOf_5 ce_X7_lotOf cv_X7_lotOf lk_RL_40 rfl rfl hx7 rfl rfl (by decide) rfl rfl (Nat.le_of_ble_eq_true rfl) (by decide)) (fun E hE => ?_) (fun v hv => ?_)
    · have h1 := wrap_exc h hE
      simp only [cs_L_lotOf, wcode] at h1
      by_cases q0 : E = "java/lang/IndexOutOfBoundsException"
      · subst q0
        have h2 : rtv (1 : Int32) r1.2 = some res := by simpa using h1
        refine ⟨[], ⟨0, 10, 13, 21⟩, [⟨0, 10, 17, 13⟩], "java/lang/IndexOutOfBoundsException", hT.trans rfl, (fun z hz => by cases hz), by decide, by decide, cl_RL_21, ca_IndexOutOfBoundsException, fun z q => ?_⟩
        refine r_astore (pc := 13) (lv' := [some (va_rf (some a0)), some (.int x1), some (.int x2), some (va_rf (some a3)), some (va_rf (some q))]) K dL_lotOf_13 (by decide) rfl ?_
        refine r_iconst (pc := 15) (v := 1) K dL_lotOf_15 (by decide) ?_
        cases h2
        exact r_ireturnX (pc := 16) K hr dL_lotOf_16 rfl rfl (by decide) (by decide)
      · rw [if_neg (fun q => q0 q)] at h1
        by_cases q1 : E = "java/lang/IllegalArgumentException"
        · subst q1
          have h2 : rtv (2 : Int32) r1.2 = some res := by simpa using h1
          refine ⟨[⟨0, 10, 13, 21⟩], ⟨0, 10, 17, 13⟩, [], "java/lang/IllegalArgumentException", hT.trans rfl, (fun z hz => by
              simp only [List.mem_cons, List.not_mem_nil, or_false] at hz
              rcases hz with rfl
              · exact Or.inr ⟨by decide, "java/lang/IndexOutOfBoundsException", cl_RL_21, by decide⟩), by decide, by decide, cl_RL_13, ca_IllegalArgumentException, fun z q => ?_⟩
          refine r_astore (pc := 17) (lv' := [some (va_rf (some a0)), some (.int x1), some (.int x2), some (va_rf (some a3)), some (va_rf (some q))]) K dL_lotOf_17 (by decide) rfl ?_
          refine r_iconst (pc := 19) (v := 2) K dL_lotOf_19 (by decide) ?_
          cases h2
          exact r_ireturnX (pc := 20) K hr dL_lotOf_20 rfl rfl (by decide) (by decide)
        · rw [if_neg (fun q => q1 q)] at h1
          cases h1
    · have h1 := wrap_val h hv
      refine r_i2l (pc := 8) K dL_lotOf_8 ?_
      refine r_last (pc := 9) K dL_lotOf_9 h1 (fun h5 h2 => ?_)
      refine r_goto (pc := 10) (tgt := 21) K dL_lotOf_10 (by decide) ?_
      refine r_iconst (pc := 21) (v := 0) K dL_lotOf_21 (by decide) ?_
      cases h2
      exact r_ireturnX (pc := 22) K hr dL_lotOf_22 rfl rfl (by decide) (by decide)
def rm_L_wall : Room := { frames := 8, cells := 6, slots := 51, locals := 137 }
def cs_L_wall : List String := ["java/lang/IndexOutOfBoundsException", "java/lang/IllegalArgumentException", "java/lang/IllegalStateException"]
set_option maxRecDepth 100000 in
set_option maxHeartbeats 4000000 in
theorem M_L_wall {D : va_G} {cA : Nat → ClassId} {h0 : Nat} {l : Launch} (hl : l.stackTraces = false) (a0 : Nat) (x1 : Int32) (x2 : Int32) (x3 : Int32) (a4 : Nat) (hp : hpT) (res : (Int32 ⊕ String) × hpT) (hx7 : ∃ fs, hp.2 a0 = some (.inr (7, fs))) (h : wrap cs_L_wall (F_X7_wall a0 x1 x2 x3 hp) a4 = some res) : vx_Met l yL_wall (wsmW yL_wall cL_wall 6 (some .int) [(0, 12, 15, 21), (0, 12, 19, 13), (0, 12, 23, 15)]) rm_L_wall (va_Pc [va_rf (some a0), .int x1, .int x2, .int x3, va_rf (some a4)] (Pre strL D cA h0 hp)) (QX D cA h0 res) (XN h0) 6 51 (Af h0) := by
  obtain ⟨fs, hx7⟩ := hx7
  refine g_entryW (by decide +kernel) hl (cat_c rfl (cat_c rfl (cat_c rfl (cat_c rfl (cat_c rfl (cat_n)))))) (Nat.le_of_ble_eq_true rfl) (lv := [some (va_rf (some a0)), some (.int x1), some (.int x2), some (.int x3), some (va_rf (some a4)), none]) rfl ?_
  intro p e s m args below meth c K hr hT
  have K : Cx strL D cA h0 p l s m args meth c cL_wall RL 6 := K
  cases hF : F_X7_wall a0 x1 x2 x3 hp with
  | none => rw [hF] at h; cases h
  | some r1 =>
    rw [hF] at h
    refine r_aload (pc := 0) K dL_wall_0 rfl ?_
    refine r_iconst (pc := 2) (v := 0) K dL_wall_2 (by decide) ?_
    refine r_aload_n (pc := 3) K dL_wall_3 rfl ?_
    refine r_iload_n (pc := 4) K dL_wall_4 rfl ?_
    refine r_iload_n (pc := 5) K dL_wall_5 rfl ?_
    refine r_iload_n (pc := 6) K dL_wall_6 rfl ?_
    refine c_catch (pc := 7) (st := [.int 0, va_rf (some a4)]) K (run_V (As := [.int x1, .int x2, .int x3]) (b := a0) (ci := 7) (q0 := (RX7, TX7, 8)) K (M_X7_wall K.2.2.2.2.2.2.1 _ _ _ _ _ _ hF) dL_wall_7 ce_X7_wall cv_X7_wall lk_RL_43 rfl rfl hx7 rfl rfl (by decide) rfl rfl (Nat.le_of_ble_eq_true rfl) (by decide)) (fun E hE => ?_) (fun v hv => ?_)
    · have h1 := wrap_exc h hE
      simp only [cs_L_wall, wcode] at h1
      by_cases q0 : E = "java/lang/IndexOutOfBoundsException"
      · subst q0
        have h2 : rtv (1 : Int32) r1.2 = some res := by simpa using h1
        refine ⟨[], ⟨0, 12, 15, 21⟩, [⟨0, 12, 19, 13⟩, ⟨0, 12, 23, 15⟩], "java/lang/IndexOutOfBoundsException", hT.trans rfl, (fun z hz => by cases hz), by decide, by decide, cl_RL_21, ca_IndexOutOfBoundsException, fun z q => ?_⟩
        refine r_astore (pc := 15) (lv' := [some (va_rf (some a0)), some (.int x1), some (.int x2), some (.int x3), some (va_rf (some a4)), some (va_rf (some q))]) K dL_wall_15 (by decide) rfl ?_
        refine r_iconst (pc := 17) (v := 1) K dL_wall_17 (by decide) ?_
        cases h2
        exact r_ireturnX (pc := 18) K hr dL_wall_18 rfl rfl (by decide) (by decide)
      · rw [if_neg (fun q => q0 q)] at h1
        by_cases q1 : E = "java/lang/IllegalArgumentException"
        · subst q1
          have h2 : rtv (2 : Int32) r1.2 = some res := by simpa using h1
          refine ⟨[⟨0, 12, 15, 21⟩], ⟨0, 12, 19, 13⟩, [⟨0, 12, 23, 15⟩], "java/lang/IllegalArgumentException", hT.trans rfl, (fun z hz => by
              simp only [List.mem_cons, List.not_mem_nil, or_false] at hz
              rcases hz with rfl
              · exact Or.inr ⟨by decide, "java/lang/IndexOutOfBoundsException", cl_RL_21, by decide⟩), by decide, by decide, cl_RL_13, ca_IllegalArgumentException, fun z q => ?_⟩
          refine r_astore (pc := 19) (lv' := [some (va_rf (some a0)), some (.int x1), some (.int x2), some (.int x3), some (va_rf (some a4)), some (va_rf (some q))]) K dL_wall_19 (by decide) rfl ?_
          refine r_iconst (pc := 21) (v := 2) K dL_wall_21 (by decide) ?_
          cases h2
          exact r_ireturnX (pc := 22) K hr dL_wall_22 rfl rfl (by decide) (by decide)
        · rw [if_neg (fun q => q1 q)] at h1
          by_cases q2 : E = "java/lang/IllegalStateException"
          · subst q2
            have h2 : rtv (3 : Int32) r1.2 = some res := by simpa using h1
            refine ⟨[⟨0, 12, 15, 21⟩, ⟨0, 12, 19, 13⟩], ⟨0, 12, 23, 15⟩, [], "java/lang/IllegalStateException", hT.trans rfl, (fun z hz => by
                simp only [List.mem_cons, List.not_mem_nil, or_false] at hz
                rcases hz with rfl | rfl
                · exact Or.inr ⟨by decide, "java/lang/IndexOutOfBoundsException", cl_RL_21, by decide⟩
                · exact Or.inr ⟨by decide, "java/lang/IllegalArgumentException", cl_RL_13, by decide⟩), by decide, by decide, cl_RL_15, ca_IllegalStateException, fun z q => ?_⟩
            refine r_astore (pc := 23) (lv' := [some (va_rf (some a0)), some (.int x1), some (.int x2), some (.int x3), some (va_rf (some a4)), some (va_rf (some q))]) K dL_wall_23 (by decide) rfl ?_
            refine r_iconst (pc := 25) (v := 3) K dL_wall_25 (by decide) ?_
            cases h2
            exact r_ireturnX (pc := 26) K hr dL_wall_26 rfl rfl (by decide) (by decide)
          · rw [if_neg (fun q => q2 q)] at h1
            cases h1
    · have h1 := wrap_val h hv
      refine r_i2l (pc := 10) K dL_wall_10 ?_
      refine r_last (pc := 11) K dL_wall_11 h1 (fun h5 h2 => ?_)
      refine r_goto (pc := 12) (tgt := 27) K dL_wall_12 (by decide) ?_
      refine r_iconst (pc := 27) (v := 0) K dL_wall_27 (by decide) ?_
      cases h2
      exact r_ireturnX (pc := 28) K hr dL_wall_28 rfl rfl (by decide) (by decide)
def rm_L_hang : Room := { frames := 8, cells := 3, slots := 18, locals := 144 }
def cs_L_hang : List String := ["java/lang/IndexOutOfBoundsException", "java/lang/IllegalStateException"]
set_option maxRecDepth 100000 in
set_option maxHeartbeats 4000000 in
theorem M_L_hang {D : va_G} {cA : Nat → ClassId} {h0 : Nat} {l : Launch} (hl : l.stackTraces = false) (a0 : Nat) (x1 : Int32) (x2 : Int32) (a3 : Nat) (hp : hpT) (res : (Int32 ⊕ String) × hpT) (hx7 : ∃ fs, hp.2 a0 = some (.inr (7, fs))) (h : wrap cs_L_hang (F_X7_hang a0 x1 x2 hp) a3 = some res) : vx_Met l yL_hang (wsmW yL_hang cL_hang 5 (some .int) [(0, 10, 13, 21), (0, 10, 17, 15)]) rm_L_hang (va_Pc [va_rf (some a0), .int x1, .int x2, va_rf (some a3)] (Pre strL D cA h0 hp)) (QX D cA h0 res) (XN h0) 3 18 (Af h0) := by
  obtain ⟨fs, hx7⟩ := hx7
  refine g_entryW (by decide +kernel) hl (cat_c rfl (cat_c rfl (cat_c rfl (cat_c rfl (cat_n))))) (Nat.le_of_ble_eq_true rfl) (lv := [some (va_rf (some a0)), some (.int x1), some (.int x2), some (va_rf (some a3)), none]) rfl ?_
  intro p e s m args below meth c K hr hT
  have K : Cx strL D cA h0 p l s m args meth c cL_hang RL 5 := K
  cases hF : F_X7_hang a0 x1 x2 hp with
  | none => rw [hF] at h; cases h
  | some r1 =>
    rw [hF] at h
    refine r_aload_n (pc := 0) K dL_hang_0 rfl ?_
    refine r_iconst (pc := 1) (v := 0) K dL_hang_1 (by decide) ?_
    refine r_aload_n (pc := 2) K dL_hang_2 rfl ?_
    refine r_iload_n (pc := 3) K dL_hang_3 rfl ?_
    refine r_iload_n (pc := 4) K dL_hang_4 rfl ?_
    refine c_catch (pc := 5) (st := [.int 0, va_rf (some a3)]) K (run_V (As := [.int x1, .int x2]) (b := a0) (ci := 7) (q0 := (RX7, TX7, 8)) K (M_X7_hang K.2.2.2.2.2.2.1 _ _ _ _ _ hF) dL_hang_5 ce_X7_hang cv_X7_hang lk_RL_46 rfl rfl hx7 rfl rfl (by decide) rfl rfl (Nat.le_of_ble_eq_true rfl) (by decide)) (fun E hE => ?_) (fun v hv => ?_)
    · have h1 := wrap_exc h hE
      simp only [cs_L_hang, wcode] at h1
      by_cases q0 : E = "java/lang/IndexOutOfBoundsException"
      · subst q0
        have h2 : rtv (1 : Int32) r1.2 = some res := by simpa using h1
        refine ⟨[], ⟨0, 10, 13, 21⟩, [⟨0, 10, 17, 15⟩], "java/lang/IndexOutOfBoundsException", hT.trans rfl, (fun z hz => by cases hz), by decide, by decide, cl_RL_21, ca_IndexOutOfBoundsException, fun z q => ?_⟩
        refine r_astore (pc := 13) (lv' := [some (va_rf (some a0)), some (.int x1), some (.int x2), some (va_rf (some a3)), some (va_rf (some q))]) K dL_hang_13 (by decide) rfl ?_
        refine r_iconst (pc := 15) (v := 1) K dL_hang_15 (by decide) ?_
        cases h2
        exact r_ireturnX (pc := 16) K hr dL_hang_16 rfl rfl (by decide) (by decide)
      · rw [if_neg (fun q => q0 q)] at h1
        by_cases q1 : E = "java/lang/IllegalStateException"
        · subst q1
          have h2 : rtv (2 : Int32) r1.2 = some res := by simpa using h1
          refine ⟨[⟨0, 10, 13, 21⟩], ⟨0, 10, 17, 15⟩, [], "java/lang/IllegalStateException", hT.trans rfl, (fun z hz => by
              simp only [List.mem_cons, List.not_mem_nil, or_false] at hz
              rcases hz with rfl
              · exact Or.inr ⟨by decide, "java/lang/IndexOutOfBoundsException", cl_RL_21, by decide⟩), by decide, by decide, cl_RL_15, ca_IllegalStateException, fun z q => ?_⟩
          refine r_astore (pc := 17) (lv' := [some (va_rf (some a0)), some (.int x1), some (.int x2), some (va_rf (some a3)), some (va_rf (some q))]) K dL_hang_17 (by decide) rfl ?_
          refine r_iconst (pc := 19) (v := 2) K dL_hang_19 (by decide) ?_
          cases h2
          exact r_ireturnX (pc := 20) K hr dL_hang_20 rfl rfl (by decide) (by decide)
        · rw [if_neg (fun q => q1 q)] at h1
          cases h1
    · have h1 := wrap_val h hv
      refine r_i2l (pc := 8) K dL_hang_8 ?_
      refine r_last (pc := 9) K dL_hang_9 h1 (fun h5 h2 => ?_)
      refine r_goto (pc := 10) (tgt := 21) K dL_hang_10 (by decide) ?_
      refine r_iconst (pc := 21) (v := 0) K dL_hang_21 (by decide) ?_
      cases h2
      exact r_ireturnX (pc := 22) K hr dL_hang_22 rfl rfl (by decide) (by decide)
def rm_L_lengthen : Room := { frames := 8, cells := 4, slots := 24, locals := 139 }
def cs_L_lengthen : List String := ["java/lang/IndexOutOfBoundsException", "java/lang/IllegalArgumentException", "java/lang/IllegalStateException"]
set_option maxRecDepth 100000 in
set_option maxHeartbeats 4000000 in
theorem M_L_lengthen {D : va_G} {cA : Nat → ClassId} {h0 : Nat} {l : Launch} (hl : l.stackTraces = false) (a0 : Nat) (x1 : Int32) (x2 : Int32) (x3 : Int32) (a4 : Nat) (hp : hpT) (res : (Int32 ⊕ String) × hpT) (hx7 : ∃ fs, hp.2 a0 = some (.inr (7, fs))) (h : wrap cs_L_lengthen (F_X7_lengthen a0 x1 x2 x3 hp) a4 = some res) : vx_Met l yL_lengthen (wsmW yL_lengthen cL_lengthen 6 (some .int) [(0, 12, 15, 21), (0, 12, 19, 13), (0, 12, 23, 15)]) rm_L_lengthen (va_Pc [va_rf (some a0), .int x1, .int x2, .int x3, va_rf (some a4)] (Pre strL D cA h0 hp)) (QX D cA h0 res) (XN h0) 4 24 (Af h0) := by
  obtain ⟨fs, hx7⟩ := hx7
  refine g_entryW (by decide +kernel) hl (cat_c rfl (cat_c rfl (cat_c rfl (cat_c rfl (cat_c rfl (cat_n)))))) (Nat.le_of_ble_eq_true rfl) (lv := [some (va_rf (some a0)), some (.int x1), some (.int x2), some (.int x3), some (va_rf (some a4)), none]) rfl ?_
  intro p e s m args below meth c K hr hT
  have K : Cx strL D cA h0 p l s m args meth c cL_lengthen RL 6 := K
  cases hF : F_X7_lengthen a0 x1 x2 x3 hp with
  | none => rw [hF] at h; cases h
  | some r1 =>
    rw [hF] at h
    refine r_aload (pc := 0) K dL_lengthen_0 rfl ?_
    refine r_iconst (pc := 2) (v := 0) K dL_lengthen_2 (by decide) ?_
    refine r_aload_n (pc := 3) K dL_lengthen_3 rfl ?_
    refine r_iload_n (pc := 4) K dL_lengthen_4 rfl ?_
    refine r_iload_n (pc := 5) K dL_lengthen_5 rfl ?_
    refine r_iload_n (pc := 6) K dL_lengthen_6 rfl ?_
    refine c_catch (pc := 7) (st := [.int 0, va_rf (some a4)]) K (run_V (As := [.int x1, .int x2, .int x3]) (b := a0) (ci := 7) (q0 := (RX7, TX7, 8)) K (M_X7_lengthen K.2.2.2.2.2.2.1 _ _ _ _ _ _ hF) dL_lengthen_7 ce_X7_lengthen cv_X7_lengthen lk_RL_49 rfl rfl hx7 rfl rfl (by decide) rfl rfl (Nat.le_of_ble_eq_true rfl) (by decide)) (fun E hE => ?_) (fun v hv => ?_)
    · have h1 := wrap_exc h hE
      simp only [cs_L_lengthen, wcode] at h1
      by_cases q0 : E = "java/lang/IndexOutOfBoundsException"
      · subst q0
        have h2 : rtv (1 : Int32) r1.2 = some res := by simpa using h1
        refine ⟨[], ⟨0, 12, 15, 21⟩, [⟨0, 12, 19, 13⟩, ⟨0, 12, 23, 15⟩], "java/lang/IndexOutOfBoundsException", hT.trans rfl, (fun z hz => by cases hz), by decide, by decide, cl_RL_21, ca_IndexOutOfBoundsException, fun z q => ?_⟩
        refine r_astore (pc := 15) (lv' := [some (va_rf (some a0)), some (.int x1), some (.int x2), some (.int x3), some (va_rf (some a4)), some (va_rf (some q))]) K dL_lengthen_15 (by decide) rfl ?_
        refine r_iconst (pc := 17) (v := 1) K dL_lengthen_17 (by decide) ?_
        cases h2
        exact r_ireturnX (pc := 18) K hr dL_lengthen_18 rfl rfl (by decide) (by decide)
      · rw [if_neg (fun q => q0 q)] at h1
        by_cases q1 : E = "java/lang/IllegalArgumentException"
        · subst q1
          have h2 : rtv (2 : Int32) r1.2 = some res := by simpa using h1
          refine ⟨[⟨0, 12, 15, 21⟩], ⟨0, 12, 19, 13⟩, [⟨0, 12, 23, 15⟩], "java/lang/IllegalArgumentException", hT.trans rfl, (fun z hz => by
              simp only [List.mem_cons, List.not_mem_nil, or_false] at hz
              rcases hz with rfl
              · exact Or.inr ⟨by decide, "java/lang/IndexOutOfBoundsException", cl_RL_21, by decide⟩), by decide, by decide, cl_RL_13, ca_IllegalArgumentException, fun z q => ?_⟩
          refine r_astore (pc := 19) (lv' := [some (va_rf (some a0)), some (.int x1), some (.int x2), some (.int x3), some (va_rf (some a4)), some (va_rf (some q))]) K dL_lengthen_19 (by decide) rfl ?_
          refine r_iconst (pc := 21) (v := 2) K dL_lengthen_21 (by decide) ?_
          cases h2
          exact r_ireturnX (pc := 22) K hr dL_lengthen_22 rfl rfl (by decide) (by decide)
        · rw [if_neg (fun q => q1 q)] at h1
          by_cases q2 : E = "java/lang/IllegalStateException"
          · subst q2
            have h2 : rtv (3 : Int32) r1.2 = some res := by simpa using h1
            refine ⟨[⟨0, 12, 15, 21⟩, ⟨0, 12, 19, 13⟩], ⟨0, 12, 23, 15⟩, [], "java/lang/IllegalStateException", hT.trans rfl, (fun z hz => by
                simp only [List.mem_cons, List.not_mem_nil, or_false] at hz
                rcases hz with rfl | rfl
                · exact Or.inr ⟨by decide, "java/lang/IndexOutOfBoundsException", cl_RL_21, by decide⟩
                · exact Or.inr ⟨by decide, "java/lang/IllegalArgumentException", cl_RL_13, by decide⟩), by decide, by decide, cl_RL_15, ca_IllegalStateException, fun z q => ?_⟩
            refine r_astore (pc := 23) (lv' := [some (va_rf (some a0)), some (.int x1), some (.int x2), some (.int x3), some (va_rf (some a4)), some (va_rf (some q))]) K dL_lengthen_23 (by decide) rfl ?_
            refine r_iconst (pc := 25) (v := 3) K dL_lengthen_25 (by decide) ?_
            cases h2
            exact r_ireturnX (pc := 26) K hr dL_lengthen_26 rfl rfl (by decide) (by decide)
          · rw [if_neg (fun q => q2 q)] at h1
            cases h1
    · have h1 := wrap_val h hv
      refine r_i2l (pc := 10) K dL_lengthen_10 ?_
      refine r_last (pc := 11) K dL_lengthen_11 h1 (fun h5 h2 => ?_)
      refine r_goto (pc := 12) (tgt := 27) K dL_lengthen_12 (by decide) ?_
      refine r_iconst (pc := 27) (v := 0) K dL_lengthen_27 (by decide) ?_
      cases h2
      exact r_ireturnX (pc := 28) K hr dL_lengthen_28 rfl rfl (by decide) (by decide)
def rm_L_strip : Room := { frames := 8, cells := 2, slots := 12, locals := 136 }
def cs_L_strip : List String := ["java/lang/IndexOutOfBoundsException", "java/lang/IllegalStateException"]
set_option maxRecDepth 100000 in
set_option maxHeartbeats 4000000 in
theorem M_L_strip {D : va_G} {cA : Nat → ClassId} {h0 : Nat} {l : Launch} (hl : l.stackTraces = false) (a0 : Nat) (x1 : Int32) (a2 : Nat) (hp : hpT) (res : (Int32 ⊕ String) × hpT) (hx7 : ∃ fs, hp.2 a0 = some (.inr (7, fs))) (h : wrap cs_L_strip (F_X7_strip a0 x1 hp) a2 = some res) : vx_Met l yL_strip (wsmW yL_strip cL_strip 4 (some .int) [(0, 9, 12, 21), (0, 9, 15, 15)]) rm_L_strip (va_Pc [va_rf (some a0), .int x1, va_rf (some a2)] (Pre strL D cA h0 hp)) (QX D cA h0 res) (XN h0) 2 12 (Af h0) := by
  obtain ⟨fs, hx7⟩ := hx7
  refine g_entryW (by decide +kernel) hl (cat_c rfl (cat_c rfl (cat_c rfl (cat_n)))) (Nat.le_of_ble_eq_true rfl) (lv := [some (va_rf (some a0)), some (.int x1), some (va_rf (some a2)), none]) rfl ?_
  intro p e s m args below meth c K hr hT
  have K : Cx strL D cA h0 p l s m args meth c cL_strip RL 4 := K
  cases hF : F_X7_strip a0 x1 hp with
  | none => rw [hF] at h; cases h
  | some r1 =>
    rw [hF] at h
    refine r_aload_n (pc := 0) K dL_strip_0 rfl ?_
    refine r_iconst (pc := 1) (v := 0) K dL_strip_1 (by decide) ?_
    refine r_aload_n (pc := 2) K dL_strip_2 rfl ?_
    refine r_iload_n (pc := 3) K dL_strip_3 rfl ?_
    refine c_catch (pc := 4) (st := [.int 0, va_rf (some a2)]) K (run_V (As := [.int x1]) (b := a0) (ci := 7) (q0 := (RX7, TX7, 8)) K (M_X7_strip K.2.2.2.2.2.2.1 _ _ _ _ hF) dL_strip_4 ce_X7_strip cv_X7_strip lk_RL_52 rfl rfl hx7 rfl rfl (by decide) rfl rfl (Nat.le_of_ble_eq_true rfl) (by decide)) (fun E hE => ?_) (fun v hv => ?_)
    · have h1 := wrap_exc h hE
      simp only [cs_L_strip, wcode] at h1
      by_cases q0 : E = "java/lang/IndexOutOfBoundsException"
      · subst q0
        have h2 : rtv (1 : Int32) r1.2 = some res := by simpa using h1
        refine ⟨[], ⟨0, 9, 12, 21⟩, [⟨0, 9, 15, 15⟩], "java/lang/IndexOutOfBoundsException", hT.trans rfl, (fun z hz => by cases hz), by decide, by decide, cl_RL_21, ca_IndexOutOfBoundsException, fun z q => ?_⟩
        refine r_astore_n (pc := 12) (lv' := [some (va_rf (some a0)), some (.int x1), some (va_rf (some a2)), some (va_rf (some q))]) K dL_strip_12 (by decide) rfl ?_
        refine r_iconst (pc := 13) (v := 1) K dL_strip_13 (by decide) ?_
        cases h2
        exact r_ireturnX (pc := 14) K hr dL_strip_14 rfl rfl (by decide) (by decide)
      · rw [if_neg (fun q => q0 q)] at h1
        by_cases q1 : E = "java/lang/IllegalStateException"
        · subst q1
          have h2 : rtv (2 : Int32) r1.2 = some res := by simpa using h1
          refine ⟨[⟨0, 9, 12, 21⟩], ⟨0, 9, 15, 15⟩, [], "java/lang/IllegalStateException", hT.trans rfl, (fun z hz => by
              simp only [List.mem_cons, List.not_mem_nil, or_false] at hz
              rcases hz with rfl
              · exact Or.inr ⟨by decide, "java/lang/IndexOutOfBoundsException", cl_RL_21, by decide⟩), by decide, by decide, cl_RL_15, ca_IllegalStateException, fun z q => ?_⟩
          refine r_astore_n (pc := 15) (lv' := [some (va_rf (some a0)), some (.int x1), some (va_rf (some a2)), some (va_rf (some q))]) K dL_strip_15 (by decide) rfl ?_
          refine r_iconst (pc := 16) (v := 2) K dL_strip_16 (by decide) ?_
          cases h2
          exact r_ireturnX (pc := 17) K hr dL_strip_17 rfl rfl (by decide) (by decide)
        · rw [if_neg (fun q => q1 q)] at h1
          cases h1
    · have h1 := wrap_val h hv
      refine r_i2l (pc := 7) K dL_strip_7 ?_
      refine r_last (pc := 8) K dL_strip_8 h1 (fun h5 h2 => ?_)
      refine r_goto (pc := 9) (tgt := 18) K dL_strip_9 (by decide) ?_
      refine r_iconst (pc := 18) (v := 0) K dL_strip_18 (by decide) ?_
      cases h2
      exact r_ireturnX (pc := 19) K hr dL_strip_19 rfl rfl (by decide) (by decide)
def rm_L_room : Room := { frames := 8, cells := 2, slots := 12, locals := 135 }
def cs_L_room : List String := ["java/lang/IndexOutOfBoundsException", "java/lang/IllegalArgumentException"]
set_option maxRecDepth 100000 in
set_option maxHeartbeats 4000000 in
theorem M_L_room {D : va_G} {cA : Nat → ClassId} {h0 : Nat} {l : Launch} (hl : l.stackTraces = false) (a0 : Nat) (x1 : Int32) (x2 : Int32) (a3 : Nat) (hp : hpT) (res : (Int32 ⊕ String) × hpT) (hx7 : ∃ fs, hp.2 a0 = some (.inr (7, fs))) (h : wrap cs_L_room (F_X7_room a0 x1 x2 hp) a3 = some res) : vx_Met l yL_room (wsmW yL_room cL_room 5 (some .int) [(0, 10, 13, 21), (0, 10, 17, 13)]) rm_L_room (va_Pc [va_rf (some a0), .int x1, .int x2, va_rf (some a3)] (Pre strL D cA h0 hp)) (QX D cA h0 res) (XN h0) 2 12 (Af h0) := by
  obtain ⟨fs, hx7⟩ := hx7
  refine g_entryW (by decide +kernel) hl (cat_c rfl (cat_c rfl (cat_c rfl (cat_c rfl (cat_n))))) (Nat.le_of_ble_eq_true rfl) (lv := [some (va_rf (some a0)), some (.int x1), some (.int x2), some (va_rf (some a3)), none]) rfl ?_
  intro p e s m args below meth c K hr hT
  have K : Cx strL D cA h0 p l s m args meth c cL_room RL 5 := K
  cases hF : F_X7_room a0 x1 x2 hp with
  | none => rw [hF] at h; cases h
  | some r1 =>
    rw [hF] at h
    refine r_aload_n (pc := 0) K dL_room_0 rfl ?_
    refine r_iconst (pc := 1) (v := 0) K dL_room_1 (by decide) ?_
    refine r_aload_n (pc := 2) K dL_room_2 rfl ?_
    refine r_iload_n (pc := 3) K dL_room_3 rfl ?_
    refine r_iload_n (pc := 4) K dL_room_4 rfl ?_
    refine c_catch (pc := 5) (st := [.int 0, va_rf (some a3)]) K (run_V (As := [.int x1, .int x2]) (b := a0) (ci := 7) (q0 := (RX7, TX7, 8)) K (M_X7_room K.2.2.2.2.2.2.1 _ _ _ _ _ hF) dL_room_5 ce_X7_room cv_X7_room lk_RL_56 rfl rfl hx7 rfl rfl (by decide) rfl rfl (Nat.le_of_ble_eq_true rfl) (by decide)) (fun E hE => ?_) (fun v hv => ?_)
    · have h1 := wrap_exc h hE
      simp only [cs_L_room, wcode] at h1
      by_cases q0 : E = "java/lang/IndexOutOfBoundsException"
      · subst q0
        have h2 : rtv (1 : Int32) r1.2 = some res := by simpa using h1
        refine ⟨[], ⟨0, 10, 13, 21⟩, [⟨0, 10, 17, 13⟩], "java/lang/IndexOutOfBoundsException", hT.trans rfl, (fun z hz => by cases hz), by decide, by decide, cl_RL_21, ca_IndexOutOfBoundsException, fun z q => ?_⟩
        refine r_astore (pc := 13) (lv' := [some (va_rf (some a0)), some (.int x1), some (.int x2), some (va_rf (some a3)), some (va_rf (some q))]) K dL_room_13 (by decide) rfl ?_
        refine r_iconst (pc := 15) (v := 1) K dL_room_15 (by decide) ?_
        cases h2
        exact r_ireturnX (pc := 16) K hr dL_room_16 rfl rfl (by decide) (by decide)
      · rw [if_neg (fun q => q0 q)] at h1
        by_cases q1 : E = "java/lang/IllegalArgumentException"
        · subst q1
          have h2 : rtv (2 : Int32) r1.2 = some res := by simpa using h1
          refine ⟨[⟨0, 10, 13, 21⟩], ⟨0, 10, 17, 13⟩, [], "java/lang/IllegalArgumentException", hT.trans rfl, (fun z hz => by
              simp only [List.mem_cons, List.not_mem_nil, or_false] at hz
              rcases hz with rfl
              · exact Or.inr ⟨by decide, "java/lang/IndexOutOfBoundsException", cl_RL_21, by decide⟩), by decide, by decide, cl_RL_13, ca_IllegalArgumentException, fun z q => ?_⟩
          refine r_astore (pc := 17) (lv' := [some (va_rf (some a0)), some (.int x1), some (.int x2), some (va_rf (some a3)), some (va_rf (some q))]) K dL_room_17 (by decide) rfl ?_
          refine r_iconst (pc := 19) (v := 2) K dL_room_19 (by decide) ?_
          cases h2
          exact r_ireturnX (pc := 20) K hr dL_room_20 rfl rfl (by decide) (by decide)
        · rw [if_neg (fun q => q1 q)] at h1
          cases h1
    · have h1 := wrap_val h hv
      refine r_i2l (pc := 8) K dL_room_8 ?_
      refine r_last (pc := 9) K dL_room_9 h1 (fun h5 h2 => ?_)
      refine r_goto (pc := 10) (tgt := 21) K dL_room_10 (by decide) ?_
      refine r_iconst (pc := 21) (v := 0) K dL_room_21 (by decide) ?_
      cases h2
      exact r_ireturnX (pc := 22) K hr dL_room_22 rfl rfl (by decide) (by decide)
def rm_L_cut : Room := { frames := 8, cells := 3, slots := 18, locals := 137 }
def cs_L_cut : List String := ["java/lang/IndexOutOfBoundsException"]
set_option maxRecDepth 100000 in
set_option maxHeartbeats 4000000 in
theorem M_L_cut {D : va_G} {cA : Nat → ClassId} {h0 : Nat} {l : Launch} (hl : l.stackTraces = false) (a0 : Nat) (x1 : Int32) (x2 : Int32) (x3 : Int32) (a4 : Nat) (hp : hpT) (res : (Int32 ⊕ String) × hpT) (hx7 : ∃ fs, hp.2 a0 = some (.inr (7, fs))) (h : wrap cs_L_cut (F_X7_cut a0 x1 x2 x3 hp) a4 = some res) : vx_Met l yL_cut (wsmW yL_cut cL_cut 6 (some .int) [(0, 12, 15, 21)]) rm_L_cut (va_Pc [va_rf (some a0), .int x1, .int x2, .int x3, va_rf (some a4)] (Pre strL D cA h0 hp)) (QX D cA h0 res) (XN h0) 3 18 (Af h0) := by
  obtain ⟨fs, hx7⟩ := hx7
  refine g_entryW (by decide +kernel) hl (cat_c rfl (cat_c rfl (cat_c rfl (cat_c rfl (cat_c rfl (cat_n)))))) (Nat.le_of_ble_eq_true rfl) (lv := [some (va_rf (some a0)), some (.int x1), some (.int x2), some (.int x3), some (va_rf (some a4)), none]) rfl ?_
  intro p e s m args below meth c K hr hT
  have K : Cx strL D cA h0 p l s m args meth c cL_cut RL 6 := K
  cases hF : F_X7_cut a0 x1 x2 x3 hp with
  | none => rw [hF] at h; cases h
  | some r1 =>
    rw [hF] at h
    refine r_aload (pc := 0) K dL_cut_0 rfl ?_
    refine r_iconst (pc := 2) (v := 0) K dL_cut_2 (by decide) ?_
    refine r_aload_n (pc := 3) K dL_cut_3 rfl ?_
    refine r_iload_n (pc := 4) K dL_cut_4 rfl ?_
    refine r_iload_n (pc := 5) K dL_cut_5 rfl ?_
    refine r_iload_n (pc := 6) K dL_cut_6 rfl ?_
    refine c_catch (pc := 7) (st := [.int 0, va_rf (some a4)]) K (run_V (As := [.int x1, .int x2, .int x3]) (b := a0) (ci := 7) (q0 := (RX7, TX7, 8)) K (M_X7_cut K.2.2.2.2.2.2.1 _ _ _ _ _ _ hF) dL_cut_7 ce_X7_cut cv_X7_cut lk_RL_59 rfl rfl hx7 rfl rfl (by decide) rfl rfl (Nat.le_of_ble_eq_true rfl) (by decide)) (fun E hE => ?_) (fun v hv => ?_)
    · have h1 := wrap_exc h hE
      simp only [cs_L_cut, wcode] at h1
      by_cases q0 : E = "java/lang/IndexOutOfBoundsException"
      · subst q0
        have h2 : rtv (1 : Int32) r1.2 = some res := by simpa using h1
        refine ⟨[], ⟨0, 12, 15, 21⟩, [], "java/lang/IndexOutOfBoundsException", hT.trans rfl, (fun z hz => by cases hz), by decide, by decide, cl_RL_21, ca_IndexOutOfBoundsException, fun z q => ?_⟩
        refine r_astore (pc := 15) (lv' := [some (va_rf (some a0)), some (.int x1), some (.int x2), some (.int x3), some (va_rf (some a4)), some (va_rf (some q))]) K dL_cut_15 (by decide) rfl ?_
        refine r_iconst (pc := 17) (v := 1) K dL_cut_17 (by decide) ?_
        cases h2
        exact r_ireturnX (pc := 18) K hr dL_cut_18 rfl rfl (by decide) (by decide)
      · rw [if_neg (fun q => q0 q)] at h1
        cases h1
    · have h1 := wrap_val h hv
      refine r_i2l (pc := 10) K dL_cut_10 ?_
      refine r_last (pc := 11) K dL_cut_11 h1 (fun h5 h2 => ?_)
      refine r_goto (pc := 12) (tgt := 19) K dL_cut_12 (by decide) ?_
      refine r_iconst (pc := 19) (v := 0) K dL_cut_19 (by decide) ?_
      cases h2
      exact r_ireturnX (pc := 20) K hr dL_cut_20 rfl rfl (by decide) (by decide)
def rm_L_seen : Room := { frames := 8, cells := 3, slots := 18, locals := 140 }
def cs_L_seen : List String := ["java/lang/IndexOutOfBoundsException"]
set_option maxRecDepth 100000 in
set_option maxHeartbeats 4000000 in
theorem M_L_seen {D : va_G} {cA : Nat → ClassId} {h0 : Nat} {l : Launch} (hl : l.stackTraces = false) (a0 : Nat) (x1 : Int32) (x2 : Int32) (x3 : Int32) (x4 : Int32) (a5 : Nat) (hp : hpT) (res : (Int32 ⊕ String) × hpT) (hx7 : ∃ fs, hp.2 a0 = some (.inr (7, fs))) (h : wrap cs_L_seen (F_X7_seen a0 x1 x2 x3 x4 hp) a5 = some res) : vx_Met l yL_seen (wsmW yL_seen cL_seen 7 (some .int) [(0, 14, 17, 21)]) rm_L_seen (va_Pc [va_rf (some a0), .int x1, .int x2, .int x3, .int x4, va_rf (some a5)] (Pre strL D cA h0 hp)) (QX D cA h0 res) (XN h0) 3 18 (Af h0) := by
  obtain ⟨fs, hx7⟩ := hx7
  refine g_entryW (by decide +kernel) hl (cat_c rfl (cat_c rfl (cat_c rfl (cat_c rfl (cat_c rfl (cat_c rfl (cat_n))))))) (Nat.le_of_ble_eq_true rfl) (lv := [some (va_rf (some a0)), some (.int x1), some (.int x2), some (.int x3), some (.int x4), some (va_rf (some a5)), none]) rfl ?_
  intro p e s m args below meth c K hr hT
  have K : Cx strL D cA h0 p l s m args meth c cL_seen RL 7 := K
  cases hF : F_X7_seen a0 x1 x2 x3 x4 hp with
  | none => rw [hF] at h; cases h
  | some r1 =>
    rw [hF] at h
    refine r_aload (pc := 0) K dL_seen_0 rfl ?_
    refine r_iconst (pc := 2) (v := 0) K dL_seen_2 (by decide) ?_
    refine r_aload_n (pc := 3) K dL_seen_3 rfl ?_
    refine r_iload_n (pc := 4) K dL_seen_4 rfl ?_
    refine r_iload_n (pc := 5) K dL_seen_5 rfl ?_
    refine r_iload_n (pc := 6) K dL_seen_6 rfl ?_
    refine r_iload (pc := 7) K dL_seen_7 rfl ?_
    refine c_catch (pc := 9) (st := [.int 0, va_rf (some a5)]) K (run_V (As := [.int x1, .int x2, .int x3, .int x4]) (b := a0) (ci := 7) (q0 := (RX7, TX7, 8)) K (M_X7_seen K.2.2.2.2.2.2.1 _ _ _ _ _ _ _ hF) dL_seen_9 ce_X7_seen cv_X7_seen lk_RL_62 rfl rfl hx7 rfl rfl (by decide) rfl rfl (Nat.le_of_ble_eq_true rfl) (by decide)) (fun E hE => ?_) (fun v hv => ?_)
    · have h1 := wrap_exc h hE
      simp only [cs_L_seen, wcode] at h1
      by_cases q0 : E = "java/lang/IndexOutOfBoundsException"
      · subst q0
        have h2 : rtv (1 : Int32) r1.2 = some res := by simpa using h1
        refine ⟨[], ⟨0, 14, 17, 21⟩, [], "java/lang/IndexOutOfBoundsException", hT.trans rfl, (fun z hz => by cases hz), by decide, by decide, cl_RL_21, ca_IndexOutOfBoundsException, fun z q => ?_⟩
        refine r_astore (pc := 17) (lv' := [some (va_rf (some a0)), some (.int x1), some (.int x2), some (.int x3), some (.int x4), some (va_rf (some a5)), some (va_rf (some q))]) K dL_seen_17 (by decide) rfl ?_
        refine r_iconst (pc := 19) (v := 1) K dL_seen_19 (by decide) ?_
        cases h2
        exact r_ireturnX (pc := 20) K hr dL_seen_20 rfl rfl (by decide) (by decide)
      · rw [if_neg (fun q => q0 q)] at h1
        cases h1
    · have h1 := wrap_val h hv
      refine r_i2l (pc := 12) K dL_seen_12 ?_
      refine r_last (pc := 13) K dL_seen_13 h1 (fun h5 h2 => ?_)
      refine r_goto (pc := 14) (tgt := 21) K dL_seen_14 (by decide) ?_
      refine r_iconst (pc := 21) (v := 0) K dL_seen_21 (by decide) ?_
      cases h2
      exact r_ireturnX (pc := 22) K hr dL_seen_22 rfl rfl (by decide) (by decide)
