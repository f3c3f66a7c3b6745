section
-- ===== PART A: goes FIRST, ahead of the names: the tables' words, and 'selects' of the private methods out of them =====
/-- a private method of a class that the tables say can be made, by its rows of tables_1 -/
def lw_okq (q : MethodName × Nat) : Prop := (q.1.cls ≠ "java/lang/invoke/MethodHandle" ∧ q.1.cls ≠ "java/lang/invoke/VarHandle") ∧ Cond.instantiable q.1.cls q.2 ∈ tables_1 ∧ Cond.privateMethod q.1 ∈ tables_1 ∧ Cond.instanceMethod q.1 ∈ tables_1
theorem lw_p0 : lw_okq (⟨"java/lang/Throwable", "fillInStackTrace", "(I)Ljava/lang/Throwable;"⟩, 6) := ⟨⟨by decide +kernel, by decide +kernel⟩, List.mem_of_getElem? (i := 171) (by decide +kernel), List.mem_of_getElem? (i := 169) (by decide +kernel), List.mem_of_getElem? (i := 170) (by decide +kernel)⟩
theorem lw_p1 : lw_okq (⟨"RollerLeaf", "patternAt", "(I)LRollerLeaf$Pattern;"⟩, 8) := ⟨⟨by decide +kernel, by decide +kernel⟩, List.mem_of_getElem? (i := 18) (by decide +kernel), List.mem_of_getElem? (i := 268) (by decide +kernel), List.mem_of_getElem? (i := 269) (by decide +kernel)⟩
theorem lw_p2 : lw_okq (⟨"RollerLeaf$Cells", "holds", "(II)Z"⟩, 3) := ⟨⟨by decide +kernel, by decide +kernel⟩, List.mem_of_getElem? (i := 223) (by decide +kernel), List.mem_of_getElem? (i := 288) (by decide +kernel), List.mem_of_getElem? (i := 289) (by decide +kernel)⟩
theorem lw_p3 : lw_okq (⟨"RollerLeaf$Cells", "colourAt", "(II)I"⟩, 3) := ⟨⟨by decide +kernel, by decide +kernel⟩, List.mem_of_getElem? (i := 223) (by decide +kernel), List.mem_of_getElem? (i := 293) (by decide +kernel), List.mem_of_getElem? (i := 294) (by decide +kernel)⟩
theorem lw_p4 : lw_okq (⟨"RollerLeaf$Cells", "place", "(II)I"⟩, 3) := ⟨⟨by decide +kernel, by decide +kernel⟩, List.mem_of_getElem? (i := 223) (by decide +kernel), List.mem_of_getElem? (i := 297) (by decide +kernel), List.mem_of_getElem? (i := 298) (by decide +kernel)⟩
theorem lw_p5 : lw_okq (⟨"RollerLeaf$Cells", "put", "(III)V"⟩, 3) := ⟨⟨by decide +kernel, by decide +kernel⟩, List.mem_of_getElem? (i := 223) (by decide +kernel), List.mem_of_getElem? (i := 307) (by decide +kernel), List.mem_of_getElem? (i := 308) (by decide +kernel)⟩
theorem lw_p6 : lw_okq (⟨"RollerLeaf$Pattern", "colourAt", "(II)I"⟩, 4) := ⟨⟨by decide +kernel, by decide +kernel⟩, List.mem_of_getElem? (i := 217) (by decide +kernel), List.mem_of_getElem? (i := 318) (by decide +kernel), List.mem_of_getElem? (i := 319) (by decide +kernel)⟩
theorem lw_p7 : lw_okq (⟨"RollerLeaf$Pattern", "flipsColumns", "(ZZ)Z"⟩, 4) := ⟨⟨by decide +kernel, by decide +kernel⟩, List.mem_of_getElem? (i := 217) (by decide +kernel), List.mem_of_getElem? (i := 323) (by decide +kernel), List.mem_of_getElem? (i := 324) (by decide +kernel)⟩
theorem lw_p8 : lw_okq (⟨"RollerLeaf$Pattern", "flipsRows", "(ZZ)Z"⟩, 4) := ⟨⟨by decide +kernel, by decide +kernel⟩, List.mem_of_getElem? (i := 217) (by decide +kernel), List.mem_of_getElem? (i := 327) (by decide +kernel), List.mem_of_getElem? (i := 328) (by decide +kernel)⟩
theorem lw_p9 : lw_okq (⟨"RollerLeaf$Pattern", "leastMove", "(Z)I"⟩, 4) := ⟨⟨by decide +kernel, by decide +kernel⟩, List.mem_of_getElem? (i := 217) (by decide +kernel), List.mem_of_getElem? (i := 346) (by decide +kernel), List.mem_of_getElem? (i := 347) (by decide +kernel)⟩
theorem lw_p10 : lw_okq (⟨"RollerLeaf$Pattern", "staysWhenMoved", "(II)Z"⟩, 4) := ⟨⟨by decide +kernel, by decide +kernel⟩, List.mem_of_getElem? (i := 217) (by decide +kernel), List.mem_of_getElem? (i := 350) (by decide +kernel), List.mem_of_getElem? (i := 351) (by decide +kernel)⟩
theorem lw_p11 : lw_okq (⟨"RollerLeaf$Pattern", "drawn", "()LRollerLeaf$Cells;"⟩, 4) := ⟨⟨by decide +kernel, by decide +kernel⟩, List.mem_of_getElem? (i := 217) (by decide +kernel), List.mem_of_getElem? (i := 366) (by decide +kernel), List.mem_of_getElem? (i := 367) (by decide +kernel)⟩
theorem lw_p12 : lw_okq (⟨"RollerLeaf", "rollerAt", "(I)LRollerLeaf$Roller;"⟩, 8) := ⟨⟨by decide +kernel, by decide +kernel⟩, List.mem_of_getElem? (i := 18) (by decide +kernel), List.mem_of_getElem? (i := 393) (by decide +kernel), List.mem_of_getElem? (i := 394) (by decide +kernel)⟩
theorem lw_p13 : lw_okq (⟨"RollerLeaf", "lotAt", "(I)LRollerLeaf$Lot;"⟩, 8) := ⟨⟨by decide +kernel, by decide +kernel⟩, List.mem_of_getElem? (i := 18) (by decide +kernel), List.mem_of_getElem? (i := 438) (by decide +kernel), List.mem_of_getElem? (i := 439) (by decide +kernel)⟩
theorem lw_p14 : lw_okq (⟨"RollerLeaf$Lot", "roundsOfARoll", "()I"⟩, 5) := ⟨⟨by decide +kernel, by decide +kernel⟩, List.mem_of_getElem? (i := 398) (by decide +kernel), List.mem_of_getElem? (i := 443) (by decide +kernel), List.mem_of_getElem? (i := 444) (by decide +kernel)⟩
theorem lw_p15 : lw_okq (⟨"RollerLeaf", "roomAt", "(I)LRollerLeaf$Room;"⟩, 8) := ⟨⟨by decide +kernel, by decide +kernel⟩, List.mem_of_getElem? (i := 18) (by decide +kernel), List.mem_of_getElem? (i := 455) (by decide +kernel), List.mem_of_getElem? (i := 456) (by decide +kernel)⟩
def lw_privs_1 : List (MethodName × Nat) := [(⟨"java/lang/Throwable", "fillInStackTrace", "(I)Ljava/lang/Throwable;"⟩, 6), (⟨"RollerLeaf", "patternAt", "(I)LRollerLeaf$Pattern;"⟩, 8), (⟨"RollerLeaf$Cells", "holds", "(II)Z"⟩, 3), (⟨"RollerLeaf$Cells", "colourAt", "(II)I"⟩, 3), (⟨"RollerLeaf$Cells", "place", "(II)I"⟩, 3), (⟨"RollerLeaf$Cells", "put", "(III)V"⟩, 3), (⟨"RollerLeaf$Pattern", "colourAt", "(II)I"⟩, 4), (⟨"RollerLeaf$Pattern", "flipsColumns", "(ZZ)Z"⟩, 4), (⟨"RollerLeaf$Pattern", "flipsRows", "(ZZ)Z"⟩, 4), (⟨"RollerLeaf$Pattern", "leastMove", "(Z)I"⟩, 4), (⟨"RollerLeaf$Pattern", "staysWhenMoved", "(II)Z"⟩, 4), (⟨"RollerLeaf$Pattern", "drawn", "()LRollerLeaf$Cells;"⟩, 4), (⟨"RollerLeaf", "rollerAt", "(I)LRollerLeaf$Roller;"⟩, 8), (⟨"RollerLeaf", "lotAt", "(I)LRollerLeaf$Lot;"⟩, 8), (⟨"RollerLeaf$Lot", "roundsOfARoll", "()I"⟩, 5), (⟨"RollerLeaf", "roomAt", "(I)LRollerLeaf$Room;"⟩, 8)]
theorem lw_r1 : ∀ q ∈ lw_privs_1, lw_okq q := List.forall_mem_cons.mpr ⟨lw_p0, List.forall_mem_cons.mpr ⟨lw_p1, List.forall_mem_cons.mpr ⟨lw_p2, List.forall_mem_cons.mpr ⟨lw_p3, List.forall_mem_cons.mpr ⟨lw_p4, List.forall_mem_cons.mpr ⟨lw_p5, List.forall_mem_cons.mpr ⟨lw_p6, List.forall_mem_cons.mpr ⟨lw_p7, List.forall_mem_cons.mpr ⟨lw_p8, List.forall_mem_cons.mpr ⟨lw_p9, List.forall_mem_cons.mpr ⟨lw_p10, List.forall_mem_cons.mpr ⟨lw_p11, List.forall_mem_cons.mpr ⟨lw_p12, List.forall_mem_cons.mpr ⟨lw_p13, List.forall_mem_cons.mpr ⟨lw_p14, List.forall_mem_cons.mpr ⟨lw_p15, fun _ h => absurd h List.not_mem_nil⟩⟩⟩⟩⟩⟩⟩⟩⟩⟩⟩⟩⟩⟩⟩⟩
theorem lw_p16 : lw_okq (⟨"RollerLeaf$Room", "isHung", "()Z"⟩, 5) := ⟨⟨by decide +kernel, by decide +kernel⟩, List.mem_of_getElem? (i := 33) (by decide +kernel), List.mem_of_getElem? (i := 460) (by decide +kernel), List.mem_of_getElem? (i := 461) (by decide +kernel)⟩
theorem lw_p17 : lw_okq (⟨"RollerLeaf$Room", "addWall", "(II)I"⟩, 5) := ⟨⟨by decide +kernel, by decide +kernel⟩, List.mem_of_getElem? (i := 33) (by decide +kernel), List.mem_of_getElem? (i := 465) (by decide +kernel), List.mem_of_getElem? (i := 466) (by decide +kernel)⟩
theorem lw_p18 : lw_okq (⟨"RollerLeaf$Room", "bestPhase", "(LRollerLeaf$Lot;)I"⟩, 5) := ⟨⟨by decide +kernel, by decide +kernel⟩, List.mem_of_getElem? (i := 33) (by decide +kernel), List.mem_of_getElem? (i := 498) (by decide +kernel), List.mem_of_getElem? (i := 499) (by decide +kernel)⟩
theorem lw_p19 : lw_okq (⟨"RollerLeaf$Room", "cutAll", "(LRollerLeaf$Lot;I)Z"⟩, 5) := ⟨⟨by decide +kernel, by decide +kernel⟩, List.mem_of_getElem? (i := 33) (by decide +kernel), List.mem_of_getElem? (i := 502) (by decide +kernel), List.mem_of_getElem? (i := 503) (by decide +kernel)⟩
theorem lw_p20 : lw_okq (⟨"RollerLeaf$OpenedRolls", "beginAnew", "(LRollerLeaf$Lot;I)V"⟩, 6) := ⟨⟨by decide +kernel, by decide +kernel⟩, List.mem_of_getElem? (i := 41) (by decide +kernel), List.mem_of_getElem? (i := 506) (by decide +kernel), List.mem_of_getElem? (i := 507) (by decide +kernel)⟩
theorem lw_p21 : lw_okq (⟨"RollerLeaf$Wall", "takeDrops", "(LRollerLeaf$OpenedRolls;I)Z"⟩, 3) := ⟨⟨by decide +kernel, by decide +kernel⟩, List.mem_of_getElem? (i := 468) (by decide +kernel), List.mem_of_getElem? (i := 510) (by decide +kernel), List.mem_of_getElem? (i := 511) (by decide +kernel)⟩
theorem lw_p22 : lw_okq (⟨"RollerLeaf$OpenedRolls", "takeDrop", "(I)I"⟩, 6) := ⟨⟨by decide +kernel, by decide +kernel⟩, List.mem_of_getElem? (i := 41) (by decide +kernel), List.mem_of_getElem? (i := 517) (by decide +kernel), List.mem_of_getElem? (i := 518) (by decide +kernel)⟩
theorem lw_p23 : lw_okq (⟨"RollerLeaf$OpenedRolls", "takeFromNewRoll", "(I)I"⟩, 6) := ⟨⟨by decide +kernel, by decide +kernel⟩, List.mem_of_getElem? (i := 41) (by decide +kernel), List.mem_of_getElem? (i := 522) (by decide +kernel), List.mem_of_getElem? (i := 523) (by decide +kernel)⟩
theorem lw_p24 : lw_okq (⟨"RollerLeaf$Room", "hangFrom", "(LRollerLeaf$Lot;II)I"⟩, 5) := ⟨⟨by decide +kernel, by decide +kernel⟩, List.mem_of_getElem? (i := 33) (by decide +kernel), List.mem_of_getElem? (i := 527) (by decide +kernel), List.mem_of_getElem? (i := 528) (by decide +kernel)⟩
theorem lw_p25 : lw_okq (⟨"RollerLeaf$Room", "lengthenFrom", "(LRollerLeaf$Lot;LRollerLeaf$Wall;I)Z"⟩, 5) := ⟨⟨by decide +kernel, by decide +kernel⟩, List.mem_of_getElem? (i := 33) (by decide +kernel), List.mem_of_getElem? (i := 544) (by decide +kernel), List.mem_of_getElem? (i := 545) (by decide +kernel)⟩
theorem lw_p26 : lw_okq (⟨"RollerLeaf", "lose", "(LRollerLeaf$Lot;I)V"⟩, 8) := ⟨⟨by decide +kernel, by decide +kernel⟩, List.mem_of_getElem? (i := 18) (by decide +kernel), List.mem_of_getElem? (i := 548) (by decide +kernel), List.mem_of_getElem? (i := 549) (by decide +kernel)⟩
theorem lw_p27 : lw_okq (⟨"RollerLeaf$Room", "makeBare", "()V"⟩, 5) := ⟨⟨by decide +kernel, by decide +kernel⟩, List.mem_of_getElem? (i := 33) (by decide +kernel), List.mem_of_getElem? (i := 552) (by decide +kernel), List.mem_of_getElem? (i := 553) (by decide +kernel)⟩
theorem lw_p28 : lw_okq (⟨"RollerLeaf$Room", "allDrops", "()I"⟩, 5) := ⟨⟨by decide +kernel, by decide +kernel⟩, List.mem_of_getElem? (i := 33) (by decide +kernel), List.mem_of_getElem? (i := 570) (by decide +kernel), List.mem_of_getElem? (i := 571) (by decide +kernel)⟩
theorem lw_p29 : lw_okq (⟨"RollerLeaf$Room", "waste", "()I"⟩, 5) := ⟨⟨by decide +kernel, by decide +kernel⟩, List.mem_of_getElem? (i := 33) (by decide +kernel), List.mem_of_getElem? (i := 574) (by decide +kernel), List.mem_of_getElem? (i := 575) (by decide +kernel)⟩
theorem lw_p30 : lw_okq (⟨"RollerLeafModel", "refused", "(I)Z"⟩, 29) := ⟨⟨by decide +kernel, by decide +kernel⟩, List.mem_of_getElem? (i := 595) (by decide +kernel), List.mem_of_getElem? (i := 700) (by decide +kernel), List.mem_of_getElem? (i := 701) (by decide +kernel)⟩
theorem lw_p31 : lw_okq (⟨"RollerLeafModel", "isPattern", "(I)Z"⟩, 29) := ⟨⟨by decide +kernel, by decide +kernel⟩, List.mem_of_getElem? (i := 595) (by decide +kernel), List.mem_of_getElem? (i := 708) (by decide +kernel), List.mem_of_getElem? (i := 709) (by decide +kernel)⟩
def lw_privs_2 : List (MethodName × Nat) := [(⟨"RollerLeaf$Room", "isHung", "()Z"⟩, 5), (⟨"RollerLeaf$Room", "addWall", "(II)I"⟩, 5), (⟨"RollerLeaf$Room", "bestPhase", "(LRollerLeaf$Lot;)I"⟩, 5), (⟨"RollerLeaf$Room", "cutAll", "(LRollerLeaf$Lot;I)Z"⟩, 5), (⟨"RollerLeaf$OpenedRolls", "beginAnew", "(LRollerLeaf$Lot;I)V"⟩, 6), (⟨"RollerLeaf$Wall", "takeDrops", "(LRollerLeaf$OpenedRolls;I)Z"⟩, 3), (⟨"RollerLeaf$OpenedRolls", "takeDrop", "(I)I"⟩, 6), (⟨"RollerLeaf$OpenedRolls", "takeFromNewRoll", "(I)I"⟩, 6), (⟨"RollerLeaf$Room", "hangFrom", "(LRollerLeaf$Lot;II)I"⟩, 5), (⟨"RollerLeaf$Room", "lengthenFrom", "(LRollerLeaf$Lot;LRollerLeaf$Wall;I)Z"⟩, 5), (⟨"RollerLeaf", "lose", "(LRollerLeaf$Lot;I)V"⟩, 8), (⟨"RollerLeaf$Room", "makeBare", "()V"⟩, 5), (⟨"RollerLeaf$Room", "allDrops", "()I"⟩, 5), (⟨"RollerLeaf$Room", "waste", "()I"⟩, 5), (⟨"RollerLeafModel", "refused", "(I)Z"⟩, 29), (⟨"RollerLeafModel", "isPattern", "(I)Z"⟩, 29)]
theorem lw_r2 : ∀ q ∈ lw_privs_2, lw_okq q := List.forall_mem_cons.mpr ⟨lw_p16, List.forall_mem_cons.mpr ⟨lw_p17, List.forall_mem_cons.mpr ⟨lw_p18, List.forall_mem_cons.mpr ⟨lw_p19, List.forall_mem_cons.mpr ⟨lw_p20, List.forall_mem_cons.mpr ⟨lw_p21, List.forall_mem_cons.mpr ⟨lw_p22, List.forall_mem_cons.mpr ⟨lw_p23, List.forall_mem_cons.mpr ⟨lw_p24, List.forall_mem_cons.mpr ⟨lw_p25, List.forall_mem_cons.mpr ⟨lw_p26, List.forall_mem_cons.mpr ⟨lw_p27, List.forall_mem_cons.mpr ⟨lw_p28, List.forall_mem_cons.mpr ⟨lw_p29, List.forall_mem_cons.mpr ⟨lw_p30, List.forall_mem_cons.mpr ⟨lw_p31, fun _ h => absurd h List.not_mem_nil⟩⟩⟩⟩⟩⟩⟩⟩⟩⟩⟩⟩⟩⟩⟩⟩
theorem lw_p32 : lw_okq (⟨"RollerLeafModel", "colourAt", "(III)I"⟩, 29) := ⟨⟨by decide +kernel, by decide +kernel⟩, List.mem_of_getElem? (i := 595) (by decide +kernel), List.mem_of_getElem? (i := 716) (by decide +kernel), List.mem_of_getElem? (i := 717) (by decide +kernel)⟩
theorem lw_p33 : lw_okq (⟨"RollerLeafModel", "columns", "(I)I"⟩, 29) := ⟨⟨by decide +kernel, by decide +kernel⟩, List.mem_of_getElem? (i := 595) (by decide +kernel), List.mem_of_getElem? (i := 720) (by decide +kernel), List.mem_of_getElem? (i := 721) (by decide +kernel)⟩
theorem lw_p34 : lw_okq (⟨"RollerLeafModel", "rows", "(I)I"⟩, 29) := ⟨⟨by decide +kernel, by decide +kernel⟩, List.mem_of_getElem? (i := 595) (by decide +kernel), List.mem_of_getElem? (i := 727) (by decide +kernel), List.mem_of_getElem? (i := 728) (by decide +kernel)⟩
theorem lw_p35 : lw_okq (⟨"RollerLeafModel", "cell", "(III)I"⟩, 29) := ⟨⟨by decide +kernel, by decide +kernel⟩, List.mem_of_getElem? (i := 595) (by decide +kernel), List.mem_of_getElem? (i := 731) (by decide +kernel), List.mem_of_getElem? (i := 732) (by decide +kernel)⟩
theorem lw_p36 : lw_okq (⟨"RollerLeafModel", "holds", "(III)Z"⟩, 29) := ⟨⟨by decide +kernel, by decide +kernel⟩, List.mem_of_getElem? (i := 595) (by decide +kernel), List.mem_of_getElem? (i := 743) (by decide +kernel), List.mem_of_getElem? (i := 744) (by decide +kernel)⟩
theorem lw_p37 : lw_okq (⟨"RollerLeafModel", "isHung", "(I)Z"⟩, 29) := ⟨⟨by decide +kernel, by decide +kernel⟩, List.mem_of_getElem? (i := 595) (by decide +kernel), List.mem_of_getElem? (i := 766) (by decide +kernel), List.mem_of_getElem? (i := 767) (by decide +kernel)⟩
theorem lw_p38 : lw_okq (⟨"RollerLeafModel", "rowsOfLot", "(I)I"⟩, 29) := ⟨⟨by decide +kernel, by decide +kernel⟩, List.mem_of_getElem? (i := 595) (by decide +kernel), List.mem_of_getElem? (i := 774) (by decide +kernel), List.mem_of_getElem? (i := 775) (by decide +kernel)⟩
theorem lw_p39 : lw_okq (⟨"RollerLeafModel", "cutAll", "(IIIZ)I"⟩, 29) := ⟨⟨by decide +kernel, by decide +kernel⟩, List.mem_of_getElem? (i := 595) (by decide +kernel), List.mem_of_getElem? (i := 778) (by decide +kernel), List.mem_of_getElem? (i := 779) (by decide +kernel)⟩
theorem lw_p40 : lw_okq (⟨"RollerLeafModel", "give", "(IIII)Z"⟩, 29) := ⟨⟨by decide +kernel, by decide +kernel⟩, List.mem_of_getElem? (i := 595) (by decide +kernel), List.mem_of_getElem? (i := 782) (by decide +kernel), List.mem_of_getElem? (i := 783) (by decide +kernel)⟩
theorem lw_p41 : lw_okq (⟨"RollerLeafModel", "keep", "(I)V"⟩, 29) := ⟨⟨by decide +kernel, by decide +kernel⟩, List.mem_of_getElem? (i := 595) (by decide +kernel), List.mem_of_getElem? (i := 786) (by decide +kernel), List.mem_of_getElem? (i := 787) (by decide +kernel)⟩
theorem lw_p42 : lw_okq (⟨"RollerLeafModel", "isWall", "(II)Z"⟩, 29) := ⟨⟨by decide +kernel, by decide +kernel⟩, List.mem_of_getElem? (i := 595) (by decide +kernel), List.mem_of_getElem? (i := 794) (by decide +kernel), List.mem_of_getElem? (i := 795) (by decide +kernel)⟩
theorem lw_p43 : lw_okq (⟨"RollerLeafModel", "lose", "(I)V"⟩, 29) := ⟨⟨by decide +kernel, by decide +kernel⟩, List.mem_of_getElem? (i := 595) (by decide +kernel), List.mem_of_getElem? (i := 798) (by decide +kernel), List.mem_of_getElem? (i := 799) (by decide +kernel)⟩
theorem lw_p44 : lw_okq (⟨"RollerLeafModel", "sum", "(IZ)I"⟩, 29) := ⟨⟨by decide +kernel, by decide +kernel⟩, List.mem_of_getElem? (i := 595) (by decide +kernel), List.mem_of_getElem? (i := 810) (by decide +kernel), List.mem_of_getElem? (i := 811) (by decide +kernel)⟩
def lw_privs_3 : List (MethodName × Nat) := [(⟨"RollerLeafModel", "colourAt", "(III)I"⟩, 29), (⟨"RollerLeafModel", "columns", "(I)I"⟩, 29), (⟨"RollerLeafModel", "rows", "(I)I"⟩, 29), (⟨"RollerLeafModel", "cell", "(III)I"⟩, 29), (⟨"RollerLeafModel", "holds", "(III)Z"⟩, 29), (⟨"RollerLeafModel", "isHung", "(I)Z"⟩, 29), (⟨"RollerLeafModel", "rowsOfLot", "(I)I"⟩, 29), (⟨"RollerLeafModel", "cutAll", "(IIIZ)I"⟩, 29), (⟨"RollerLeafModel", "give", "(IIII)Z"⟩, 29), (⟨"RollerLeafModel", "keep", "(I)V"⟩, 29), (⟨"RollerLeafModel", "isWall", "(II)Z"⟩, 29), (⟨"RollerLeafModel", "lose", "(I)V"⟩, 29), (⟨"RollerLeafModel", "sum", "(IZ)I"⟩, 29)]
theorem lw_r3 : ∀ q ∈ lw_privs_3, lw_okq q := List.forall_mem_cons.mpr ⟨lw_p32, List.forall_mem_cons.mpr ⟨lw_p33, List.forall_mem_cons.mpr ⟨lw_p34, List.forall_mem_cons.mpr ⟨lw_p35, List.forall_mem_cons.mpr ⟨lw_p36, List.forall_mem_cons.mpr ⟨lw_p37, List.forall_mem_cons.mpr ⟨lw_p38, List.forall_mem_cons.mpr ⟨lw_p39, List.forall_mem_cons.mpr ⟨lw_p40, List.forall_mem_cons.mpr ⟨lw_p41, List.forall_mem_cons.mpr ⟨lw_p42, List.forall_mem_cons.mpr ⟨lw_p43, List.forall_mem_cons.mpr ⟨lw_p44, fun _ h => absurd h List.not_mem_nil⟩⟩⟩⟩⟩⟩⟩⟩⟩⟩⟩⟩⟩
def lw_privs : List (MethodName × Nat) := lw_privs_1 ++ (lw_privs_2 ++ (lw_privs_3))
def lw_tbl : List Cond := k2_sels lw_privs ++ tables_1
theorem lw_privs_ok : ∀ q ∈ lw_privs, lw_okq q := by
  show ∀ q ∈ lw_privs_1 ++ (lw_privs_2 ++ (lw_privs_3)), lw_okq q
  exact List.forall_mem_append.mpr ⟨lw_r1, List.forall_mem_append.mpr ⟨lw_r2, lw_r3⟩⟩
-- ===== end of PART A; then your names; then what follows =====
end
section
/-! ===== BEGIN words of one list among another's, by their places ===== -/
theorem goodIn_r {big : List Cond} (ws : List Cond) (ps : List Nat) (hp : ws = ps.filterMap (fun i => big[i]?)) (h : ws.all goodWord = true) : GoodIn big ws := by
  intro w hw
  have h1 := List.all_eq_true.mp h w hw
  rw [hp] at hw
  obtain ⟨i, -, hi⟩ := List.mem_filterMap.mp hw
  have hm : w ∈ big := by first | exact List.mem_of_getElem? hi | exact List.getElem?_mem hi
  exact ⟨hm, good_of_word h1⟩
theorem goodIn_app {big a b : List Cond} (ha : GoodIn big a) (hb : GoodIn big b) : GoodIn big (a ++ b) := fun w h => (List.mem_append.mp h).elim (ha w) (hb w)
theorem goodIn_ca {big a b : List Cond} {c : Cond} (ha : GoodIn big (c :: a)) (hb : GoodIn big b) : GoodIn big (c :: (a ++ b)) := fun w h => (List.mem_cons.mp h).elim (fun e => ha w (List.mem_cons.mpr (Or.inl e))) (fun h => (List.mem_append.mp h).elim (fun h => ha w (List.mem_cons.mpr (Or.inr h))) (hb w))
theorem goodIn_sub {big ws : List Cond} (hm : ∀ w ∈ ws, w ∈ big) (h : ws.all goodWord = true) : GoodIn big ws := fun w hw => ⟨hm w hw, good_of_word (List.all_eq_true.mp h w hw)⟩
/-! ===== END ===== -/
/-! ===== BEGIN exceptions that leave a method, and their catching by the caller (launches without stack traces) ===== -/
section VXA
/-! The laws vx_back, vx_callV, vx_callS, vx_callSW, vx_throw0, vx_throwS follow proofs of the library, with one case more: JvmDerived/Free/Laws.lean (Back.of_free), Shelf42/LK1.lean (callV, callS), Shelf/KitTraced.lean (throwNew0V, throwNewS). -/
/-- where a method has thrown q: the class by its name, the cell, what was written, the world -/
def vx_T (XC : String → State → State → Prop) (st : State) (q : Addr) (t : State) (mc ms : Nat) (free : Addr → Prop) : Prop :=
  ∃ (E : String) (ce : Cell) (L : List Loc), XC E st t ∧ t.heap[q]? = some ce ∧ ce.vm = .none ∧ st.vm.findClass E = some ce.cls ∧ st.WarmedH t.vm ∧ st.sameButNew ({ t with vm := st.vm } : State) L mc ms ∧ ∀ z ∈ L, free z.base
def vx_Q (Qc : Array Value → State → Outcome → State → Prop) (XC : String → State → State → Prop) (mc ms : Nat) (free : Addr → Prop) : Array Value → State → Outcome → State → Prop := fun a st o t =>
  (Qc a st o t ∧ ∃ L, FrameEnd st o t L mc ms ∧ ∀ q ∈ L, free q.base) ∨ ∃ q, o = .threw q ∧ vx_T XC st q t mc ms free
/-- a callee that returns or throws -/
def vx_Met (l : Launch) (y : MethodName) (ws : List Cond) (rm : Room) (Pc : Array Value → State → Prop) (Qc : Array Value → State → Outcome → State → Prop) (XC : String → State → State → Prop) (mc ms : Nat) (free : Addr → Prop) : Prop :=
  MetFree l y (headSpec ws rm) Pc (fun _ _ _ _ _ => True) (vx_Q Qc XC mc ms free)
def vx_Post (XC : String → State → State → Prop) (mc ms : Nat) (free : Addr → Prop) : Pt → Array Value → Addr → Pt → Prop := fun A a q B =>
  ∃ (g : JFrame) (mk : MethodId) (t : State) (L : List Loc) (E : String) (ce : Cell), B.U.heap = t.heap ∧ B.U.vm = t.vm ∧ XC E (A.U.calling g mk a) t ∧ t.heap[q]? = some ce ∧ ce.vm = .none ∧ A.U.vm.findClass E = some ce.cls ∧ B.locs = A.locs ++ L ∧ (∀ z ∈ L, free z.base) ∧ B.cells = A.cells + mc ∧ B.slots = A.slots + ms
def vx_Back (l : Launch) (R : Room) (p : Program) (e : Env) (below : List Frame) (s : State) (sargs : Array Value) (y : MethodName) (len W9 : Nat)
    (Pre : Pt → Array Value → Prop) (Post : Pt → Array Value → Option Value → Pt → Prop) (PostX : Pt → Array Value → Addr → Pt → Prop) : Prop :=
  ∀ (m : MethodId) (meth : Method) (c : Code) (A : Pt) (g : JFrame) (ig : Instr) (mk : MethodId) (a : Array Value),
    Stand p l e R s m sargs below meth c A.U A.locs A.cells A.slots → g.method = m → g.locals.size = c.maxLocals → decode c.code g.pc = .ok (ig, len) →
    2 * g.monitorRoom + (g.stack.map fun v => v.category).sum ≤ W9 → A.U.methodNamed? y = some mk → Pre A a →
    (∃ (v : Option Value) (B : Pt), Stand p l e R s m sargs below meth c B.U B.locs B.cells B.slots ∧ Post A a v B ∧
      Steps p.tables e below (doInvoke e (A.U.setTop g) [] mk a).1 (B.U.setTop { g with pc := g.pc + len, stack := v.toList ++ g.stack })) ∨
    (∃ (q : Addr) (B : Pt), Stand p l e R s m sargs below meth c B.U B.locs B.cells B.slots ∧ PostX A a q B ∧
      Steps p.tables e below (doInvoke e (A.U.setTop g) [] mk a).1 ((B.U.setTop g).pushFrame (.throwing q)))
section Payer
variable {l : Launch} {R : Room} {p : Program} {e : Env} {below : List Frame} {s : State} {sargs : Array Value} {y : MethodName} {len W9 : Nat}
theorem vx_back {ws : List Cond} {rm : Room} {Pc : Array Value → State → Prop} {Qc : Array Value → State → Outcome → State → Prop} {XC : String → State → State → Prop} {mc ms : Nat} {free : Addr → Prop} {bytes : ByteArray} {maxL : Nat} {ret : Option FieldType}
    (hM : vx_Met l y ws rm Pc Qc XC mc ms free) (hblind : FrameBlind Pc) (hrc : rm.cells = mc) (hrs : rm.slots = ms)
    (hframes : rm.frames + 1 ≤ R.frames) (hlocals : W9 + (maxL + 11) + rm.locals ≤ R.locals)
    (hws : ∀ w ∈ ws, ∀ a' U, s.WarmedH U.vm → w.before a' U = true) (hcode : Cond.code y bytes maxL ret ∈ ws) (hinit : ∀ a' U, s.WarmedH U.vm → (Cond.initialized y.cls).before a' U = true) :
    vx_Back l R p e below s sargs y len W9 (PreOf R mc ms Pc) (PostOf Qc mc ms free) (vx_Post XC mc ms free) := by
  intro m meth c A g ig mk a X hg hsize hdg hW hn hp
  have h1 : (headSpec ws rm).pre.before a A.U = true := atoms_intro fun w hw => hws w hw _ _ X.warmed
  have h2 : (Cond.code y bytes maxL ret).before a A.U = true := hws _ hcode _ _ X.warmed
  have h3 : (Cond.initialized y.cls).before a A.U = true := hinit _ _ X.warmed
  have h4 : A.cells + (headSpec ws rm).room.cells ≤ R.cells := by rw [show (headSpec ws rm).room.cells = mc from hrc]; exact hp.1
  have h5 : A.slots + (headSpec ws rm).room.slots ≤ R.slots := by rw [show (headSpec ws rm).room.slots = ms from hrs]; exact hp.2.1
  have hPc : Pc a (A.U.calling g mk a) := hblind _ _ _ _ hp.2.2
  obtain ⟨U, Ls, c0, s0⟩ := A
  dsimp only [Pt.U, Pt.locs, Pt.cells, Pt.slots] at h1 h2 h3 h4 h5 X hn hPc ⊢
  obtain ⟨methY, cY, hmY, hcY, -, hlY, -, -, -, -⟩ := Cond.code_spec hn h2
  obtain ⟨kY, hkY, -⟩ := className_of_methodNamed hn
  have hinitY : kY.init = .initialized := Cond.initialized_spec (findClass_of_methodNamed hn) hkY h3
  have h : At U g.method c below := by rw [hg]; exact X.here
  have hlocals9 : W9 + (maxL + 11) + (headSpec ws rm).room.locals ≤ R.locals := hlocals
  have happ : (headSpec ws rm).appliesLoose y e.platform (U.calling g mk a) = true :=
    Spec.appliesLoose_calling (g := g) h hdg hn hkY hinitY
      (X.room_calling (g := g) (R' := (headSpec ws rm).room) hsize hmY hcY hframes (by rw [hlY]; omega) h4 h5) h1
  obtain ⟨mid, hmid⟩ := h.above
  have hfr : (U.setTop g).frames = (.java g :: mid) ++ below := by rw [State.frames_setTop' g h.top, hmid]; rfl
  obtain ⟨o, s₂, hsteps, -, hend, hq⟩ := Steps.callFree hM p X.admits X.cas X.clock (acts := []) hfr happ hPc trivial
  have hq' : vx_Q Qc XC mc ms free a (U.calling g mk a) o s₂ := hq
  rw [State.frames_setTop' g h.top] at hend
  obtain ⟨g₀, hg0⟩ := Option.isSome_iff_exists.mp h.top
  obtain ⟨r, hr⟩ := State.topJava?_eq_some.mp hg0
  have hr' : (({ U with heap := s₂.heap, slotsUsed := s₂.slotsUsed } : State).setVm s₂.vm).frames = .java g₀ :: r := hr
  rcases hq' with ⟨hqc, L, hfe, hL⟩ | ⟨q, rfl, E, ce, L, hx, hce, hcv, hcl, hW₂, hsm, hL⟩
  · obtain ⟨⟨v, rfl⟩, hW₂, e2, q2, q3, q4, q5, q6⟩ := id hfe
    have e3 : s₂ = ({ (U.calling g mk a).setFrames s₂.frames with heap := s₂.heap, slotsUsed := s₂.slotsUsed } : State).setVm s₂.vm := by
      have : s₂ = ({ s₂ with vm := (U.calling g mk a).vm } : State).setVm s₂.vm := rfl
      rw [e2] at this
      exact this
    obtain ⟨c₂, i₂, len₂, hc₂, hd₂, hf₂⟩ := hend
    have hW' : U.WarmedH s₂.vm := hW₂
    have hcc : c₂ = c := by
      have h1 : s₂.code? g.method = U.code? g.method := by
        rw [State.code?_eq, State.code?_eq, hW'.alike.method?]
      exact Option.some.inj (hc₂.symm.trans (h1.trans h.code))
    subst hcc
    have hlen : len₂ = len := by rw [hdg] at hd₂; cases hd₂; rfl
    subst hlen
    have hs₂ : s₂ = (({ U with heap := s₂.heap, slotsUsed := s₂.slotsUsed } : State).setVm s₂.vm).setTop { g with pc := g.pc + len₂, stack := v.toList ++ g.stack } := by
      refine e3.trans ?_
      rw [hf₂, State.calling_eq h.top, State.setFrames_setFrames, State.setTop_of_frames _ hr', hr]
      rfl
    have hsame : U.sameButNew ({ U with heap := s₂.heap, slotsUsed := s₂.slotsUsed } : State) L mc ms := by
      refine ⟨?_, q2, q3, q4, q5, q6⟩
      obtain ⟨t, ht, -⟩ := State.frames_cons hr
      show ({ U with heap := s₂.heap, slotsUsed := s₂.slotsUsed } : State) = { U.setFrames U.frames with heap := s₂.heap, slotsUsed := s₂.slotsUsed }
      rw [State.setFrames_self ht]
    subst hg
    refine Or.inl ⟨v, ⟨(({ U with heap := s₂.heap, slotsUsed := s₂.slotsUsed } : State).setVm s₂.vm), Ls ++ L, c0 + mc, s0 + ms⟩,
      ⟨X.admits, X.cas, X.clock, X.frames, X.room, X.hears, X.method, X.code, (X.here.setHeapUsed s₂.heap s₂.slotsUsed).setVm hW'.alike, X.tail, State.WarmedH.trans X.warmed hW', X.limits, X.bytes, X.same.trans (hsame.setVm s.vm)⟩,
      ⟨g, mk, s₂, L, rfl, rfl, hqc, rfl, hL, rfl, rfl⟩, ?_⟩
    show Steps p.tables e below _ ((({ U with heap := s₂.heap, slotsUsed := s₂.slotsUsed } : State).setVm s₂.vm).setTop { g with pc := g.pc + len₂, stack := v.toList ++ g.stack })
    rw [← hs₂]
    exact hsteps
  · obtain ⟨e2, q2, q3, q4, q5, q6⟩ := id hsm
    have e3 : s₂ = ({ (U.calling g mk a).setFrames s₂.frames with heap := s₂.heap, slotsUsed := s₂.slotsUsed } : State).setVm s₂.vm := by
      have : s₂ = ({ s₂ with vm := (U.calling g mk a).vm } : State).setVm s₂.vm := rfl
      rw [e2] at this
      exact this
    have hf₂ : s₂.frames = .throwing q :: .java g :: U.frames.tail := hend
    have hW' : U.WarmedH s₂.vm := hW₂
    have hs₂ : s₂ = ((({ U with heap := s₂.heap, slotsUsed := s₂.slotsUsed } : State).setVm s₂.vm).setTop g).pushFrame (.throwing q) := by
      refine e3.trans ?_
      rw [hf₂, State.calling_eq h.top, State.setFrames_setFrames, State.pushFrame, State.frames_setTop _ hr', State.setTop_of_frames _ hr', State.setFrames_setFrames, hr]
      rfl
    have hsame : U.sameButNew ({ U with heap := s₂.heap, slotsUsed := s₂.slotsUsed } : State) L mc ms := by
      refine ⟨?_, q2, q3, q4, q5, q6⟩
      obtain ⟨t, ht, -⟩ := State.frames_cons hr
      show ({ U with heap := s₂.heap, slotsUsed := s₂.slotsUsed } : State) = { U.setFrames U.frames with heap := s₂.heap, slotsUsed := s₂.slotsUsed }
      rw [State.setFrames_self ht]
    subst hg
    refine Or.inr ⟨q, ⟨(({ U with heap := s₂.heap, slotsUsed := s₂.slotsUsed } : State).setVm s₂.vm), Ls ++ L, c0 + mc, s0 + ms⟩,
      ⟨X.admits, X.cas, X.clock, X.frames, X.room, X.hears, X.method, X.code, (X.here.setHeapUsed s₂.heap s₂.slotsUsed).setVm hW'.alike, X.tail, State.WarmedH.trans X.warmed hW', X.limits, X.bytes, X.same.trans (hsame.setVm s.vm)⟩,
      ⟨g, mk, s₂, L, E, ce, rfl, rfl, hx, hce, hcv, hcl, rfl, hL, rfl, rfl⟩, ?_⟩
    show Steps p.tables e below _ (((({ U with heap := s₂.heap, slotsUsed := s₂.slotsUsed } : State).setVm s₂.vm).setTop g).pushFrame (.throwing q))
    rw [← hs₂]
    exact hsteps
end Payer
section Calls
variable {p : Program} {l : Launch} {e : Env} {R : Room} {s : State} {m : MethodId} {args : Array Value} {below : List Frame} {meth : Method} {c : Code} {T : State} {locs : List Loc} {cells slots : Nat}
theorem vx_callV (X : Stand p l e R s m args below meth c T locs cells slots) (hexec : p.tables.exec = Jvm.exec) {own C : String} {index : Nat} {y : MethodName} {bytes : ByteArray} {maxL : Nat} {ret : Option FieldType}
    (hown : s.vm.findClass own = some m.cls) (hlink : (Cond.methodLink own index y).before args s = true) (hinst : (Cond.instanceMethod y).before args s = true) (hsel : (Cond.selects C y y).before args s = true)
    (hcode : (Cond.code y bytes maxL ret).before args s = true) (hy : y.cls ≠ "java/lang/invoke/MethodHandle" ∧ y.cls ≠ "java/lang/invoke/VarHandle")
    {W9 : Nat} {Pre : Pt → Array Value → Prop} {Post : Pt → Array Value → Option Value → Pt → Prop} {PostX : Pt → Array Value → Addr → Pt → Prop} (hK : vx_Back l R p e below s args y 3 W9 Pre Post PostX)
    {b : Addr} {cellB : Cell} (hcell : T.heap[b]? = some cellB) (hobj : cellB.vm.isStatics = false) (hcls : s.vm.findClass C = some cellB.cls)
    {g : JFrame} (hg : g.method = m) (hsize : g.locals.size = c.maxLocals) {argsL rest : List Value} (hlen : ∀ sig, parseMethodDescriptor y.desc = some sig → argsL.length = sig.parameters.length)
    (hstack : g.stack = argsL.reverse ++ .ref b :: rest) (hW : 2 * g.monitorRoom + (rest.map fun v => v.category).sum ≤ W9) (hdg : decode c.code g.pc = .ok (.invokevirtual index, 3))
    (hpre : ∀ vm₁, s.WarmedH vm₁ → Pre ⟨T.setVm vm₁, locs, cells, slots⟩ (Value.ref b :: argsL).toArray) :
    (∃ (v : Option Value) (vm₁ : Vm) (B : Pt), s.WarmedH vm₁ ∧ Stand p l e R s m args below meth c B.U B.locs B.cells B.slots ∧ Post ⟨T.setVm vm₁, locs, cells, slots⟩ (Value.ref b :: argsL).toArray v B ∧
      ∀ target, Steps p.tables e below (B.U.setTop { g with pc := g.pc + 3, stack := v.toList ++ rest }) target → Steps p.tables e below (T.setTop g) target) ∨
    (∃ (q : Addr) (vm₁ : Vm) (B : Pt), s.WarmedH vm₁ ∧ Stand p l e R s m args below meth c B.U B.locs B.cells B.slots ∧ PostX ⟨T.setVm vm₁, locs, cells, slots⟩ (Value.ref b :: argsL).toArray q B ∧
      Steps p.tables e below (T.setTop g) ((B.U.setTop { g with stack := rest }).pushFrame (.throwing q))) := by
  obtain ⟨mk, methM, hnamed, hmethM, hstM, habM⟩ := Cond.instanceMethod_spec hinst
  obtain ⟨methM', cM, hmethM', -, -, -, -, -, -, hsigM⟩ := Cond.code_spec hnamed hcode
  cases hmethM.symm.trans hmethM'
  obtain ⟨c2, r2, m2, q1, q2, q3, q4, kP, hkP, hkPi⟩ := Cond.selects_spec hsel
  cases hcls.symm.trans q1
  cases (State.methodFound?_of_named hnamed hy).symm.trans q2
  cases hnamed.symm.trans q3
  have hselP : selectMethod e.platform s.vm cellB.cls mk = .method mk := by rw [Launch.admits_selectMethod X.admits]; exact q4
  obtain ⟨vm₁, X₁, hstep₁⟩ := X.invokevirtual hexec hown hlink hnamed hmethM hstM hkP hkPi hy (a := b) (cell := cellB) hcell
    (fun z h => by rw [h] at hobj; cases hobj) hselP hmethM habM hkP hkPi (g := g) hg (argsL := argsL) (rest := rest) (hlen _ hsigM) hstack hdg
  rcases hK m meth c ⟨T.setVm vm₁, locs, cells, slots⟩ { g with stack := rest } (.invokevirtual index) mk (Value.ref b :: argsL).toArray X₁ hg hsize hdg hW (X₁.named hnamed) (hpre vm₁ X₁.warmed) with ⟨v, B, X', hpost, hsteps⟩ | ⟨q, B, X', hpost, hsteps⟩
  · exact Or.inl ⟨v, vm₁, B, X₁.warmed, X', hpost, fun target h => hstep₁ _ fun acts => by rw [doInvoke_state]; exact hsteps.trans h⟩
  · exact Or.inr ⟨q, vm₁, B, X₁.warmed, X', hpost, hstep₁ _ fun acts => by rw [doInvoke_state]; exact hsteps⟩
theorem vx_callS (X : Stand p l e R s m args below meth c T locs cells slots) (hexec : p.tables.exec = Jvm.exec) {own : String} {index : Nat} {y : MethodName} {bytes : ByteArray} {maxL : Nat} {ret : Option FieldType}
    (hown : s.vm.findClass own = some m.cls) (hlink : (Cond.methodLink own index y).before args s = true) (hstat : (Cond.static y).before args s = true) (hinit : (Cond.initialized y.cls).before args s = true)
    (hcode : (Cond.code y bytes maxL ret).before args s = true) (hy : y.cls ≠ "java/lang/invoke/MethodHandle" ∧ y.cls ≠ "java/lang/invoke/VarHandle")
    {W9 : Nat} {Pre : Pt → Array Value → Prop} {Post : Pt → Array Value → Option Value → Pt → Prop} {PostX : Pt → Array Value → Addr → Pt → Prop} (hK : vx_Back l R p e below s args y 3 W9 Pre Post PostX)
    {g : JFrame} (hg : g.method = m) (hsize : g.locals.size = c.maxLocals) {argsL rest : List Value} (hlen : ∀ sig, parseMethodDescriptor y.desc = some sig → argsL.length = sig.parameters.length)
    (hstack : g.stack = argsL.reverse ++ rest) (hW : 2 * g.monitorRoom + (rest.map fun v => v.category).sum ≤ W9) (hdg : decode c.code g.pc = .ok (.invokestatic index, 3))
    (hpre : ∀ vm₁, s.WarmedH vm₁ → Pre ⟨T.setVm vm₁, locs, cells, slots⟩ argsL.toArray) :
    (∃ (v : Option Value) (vm₁ : Vm) (B : Pt), s.WarmedH vm₁ ∧ Stand p l e R s m args below meth c B.U B.locs B.cells B.slots ∧ Post ⟨T.setVm vm₁, locs, cells, slots⟩ argsL.toArray v B ∧
      ∀ target, Steps p.tables e below (B.U.setTop { g with pc := g.pc + 3, stack := v.toList ++ rest }) target → Steps p.tables e below (T.setTop g) target) ∨
    (∃ (q : Addr) (vm₁ : Vm) (B : Pt), s.WarmedH vm₁ ∧ Stand p l e R s m args below meth c B.U B.locs B.cells B.slots ∧ PostX ⟨T.setVm vm₁, locs, cells, slots⟩ argsL.toArray q B ∧
      Steps p.tables e below (T.setTop g) ((B.U.setTop { g with stack := rest }).pushFrame (.throwing q))) := by
  obtain ⟨mk, hnamed⟩ := Cond.code_named hcode
  obtain ⟨methM, cM, hmethM, -, -, -, -, -, -, hsigM⟩ := Cond.code_spec hnamed hcode
  have hstatic : methM.isStatic = true := Cond.static_spec hnamed hmethM hstat
  obtain ⟨kP, hkP, -⟩ := className_of_methodNamed hnamed
  have hinitP : kP.init = .initialized := Cond.initialized_spec (findClass_of_methodNamed hnamed) hkP hinit
  obtain ⟨vm₁, X₁, hstep₁⟩ := X.invokestatic hexec hown hlink hnamed hmethM hstatic hkP hinitP hy (g := g) hg (argsL := argsL) (rest := rest) (hlen _ hsigM) hstack hdg
  rcases hK m meth c ⟨T.setVm vm₁, locs, cells, slots⟩ { g with stack := rest } (.invokestatic index) mk argsL.toArray X₁ hg hsize hdg hW (X₁.named hnamed) (hpre vm₁ X₁.warmed) with ⟨v, B, X', hpost, hsteps⟩ | ⟨q, B, X', hpost, hsteps⟩
  · exact Or.inl ⟨v, vm₁, B, X₁.warmed, X', hpost, fun target h => hstep₁ _ fun acts => by rw [doInvoke_state]; exact hsteps.trans h⟩
  · exact Or.inr ⟨q, vm₁, B, X₁.warmed, X', hpost, hstep₁ _ fun acts => by rw [doInvoke_state]; exact hsteps⟩
end Calls
theorem vx_cls {s : State} {T : State} {vm₁ : Vm} {E : String} {k : ClassId} (hW : s.WarmedH vm₁) (h : (T.setVm vm₁).vm.findClass E = some k) : s.vm.findClass E = some k := by
  have h1 : vm₁.findClass E = some k := h
  rw [hW.alike.findClass] at h1
  exact h1
/-- the method's frame g, with q thrown over it -/
def vx_W (p : Program) (l : Launch) (e : Env) (R : Room) (s : State) (m : MethodId) (args : Array Value) (below : List Frame) (meth : Method) (c : Code) (H : Heap) (locs : List Loc) (cells slots : Nat) (Q : State → Prop) (g : JFrame) (q : Addr) : Prop :=
  ∀ T : State, T.heap = H → Stand p l e R s m args below meth c T locs cells slots → ∃ t, Steps p.tables e below ((T.setTop g).pushFrame (.throwing q)) t ∧ Q t
def vx_Run (p : Program) (l : Launch) (e : Env) (R : Room) (s : State) (m : MethodId) (args : Array Value) (below : List Frame) (meth : Method) (c : Code) (H : Heap) (locs : List Loc) (cells slots mc ms : Nat) (g : JFrame) (rest : List Value) (Qa : State → Outcome → State → Prop) (XC : String → State → State → Prop) (free : Addr → Prop) : Prop :=
  ∀ T : State, T.heap = H → Stand p l e R s m args below meth c T locs cells slots →
    (∃ (v : Option Value) (st₀ t T' : State) (L : List Loc), st₀.heap = H ∧ Stand p l e R s m args below meth c T' (locs ++ L) (cells + mc) (slots + ms) ∧ (∀ q ∈ L, free q.base) ∧ T'.heap = t.heap ∧ T'.vm = t.vm ∧ Qa st₀ (.returned v) t ∧
      Goes p e below T g T' { g with pc := g.pc + 3, stack := v.toList ++ rest }) ∨
    (∃ (q : Addr) (st₀ t T' : State) (L : List Loc) (E : String) (ce : Cell), st₀.heap = H ∧ Stand p l e R s m args below meth c T' (locs ++ L) (cells + mc) (slots + ms) ∧ (∀ z ∈ L, free z.base) ∧ T'.heap = t.heap ∧ T'.vm = t.vm ∧ XC E st₀ t ∧ t.heap[q]? = some ce ∧ ce.vm = .none ∧ s.vm.findClass E = some ce.cls ∧
      Steps p.tables e below (T.setTop g) ((T'.setTop { g with stack := rest }).pushFrame (.throwing q)))
def vx_X {S : Type} (px : S → Prop) (B : String → S → State → Prop) (A : Nat → Prop) : String → State → State → Prop := fun E st t => ∃ u : S, px u ∧ B E u t ∧ va_F A st t
section Runs
variable {p : Program} {l : Launch} {e : Env} {R : Room} {s : State} {m : MethodId} {args : Array Value} {below : List Frame} {meth : Method} {c : Code} {H : Heap} {locs : List Loc} {cells slots : Nat}
variable {y : MethodName} {bytes cc : ByteArray} {maxL nL mc ms n index : Nat} {ret : Option FieldType} {ws : List Cond} {rm : Room} {Pc : Array Value → State → Prop} {Qc : Array Value → State → Outcome → State → Prop} {XC : String → State → State → Prop} {free : Addr → Prop} {Ts : List Cond} {own C : String} {b : Addr} {As rest : List Value} {g : JFrame}
theorem vx_callBack (cb : CallB R s args own index y bytes maxL ret ws rm mc ms n) (hM : vx_Met l y ws rm Pc Qc XC mc ms free) (hbl : FrameBlind Pc) : vx_Back l R p e below s args y 3 8 (PreOf R mc ms Pc) (PostOf Qc mc ms free) (vx_Post XC mc ms free) := by
  obtain ⟨hrc, hrs, hfr, hlo, hws, hcw, -, hini, -⟩ := cb
  exact vx_back (bytes := bytes) (maxL := maxL) (ret := ret) hM hbl hrc hrs hfr hlo hws hcw (fun a' U hW => word_at hW (Or.inl (by first | rfl | simp [Cond.onTables, Cond.keeps, Cond.steady])) hini)
theorem vx_runV (S : CallFix p m c cc nL s args Ts own) (hM : vx_Met l y ws rm Pc Qc XC mc ms free) (cw : CallW R s args own C index y bytes maxL ret ws rm mc ms n) (hp : PreV s H C b Pc As)
    (hg : g.method = m) (hn : As.length = n) (hsize : g.locals.size = nL) (hstack : g.stack = As.reverse ++ .ref b :: rest) (hW : 2 * g.monitorRoom + (rest.map fun v => v.category).sum ≤ 8) (hdg : decode cc g.pc = .ok (.invokevirtual index, 3)) (hf : cells + mc ≤ R.cells ∧ slots + ms ≤ R.slots) :
    vx_Run p l e R s m args below meth c H locs cells slots mc ms g rest (Qc (Value.ref b :: As).toArray) XC free := by
  have hK : vx_Back l R p e below s args y 3 8 (PreOf R mc ms Pc) (PostOf Qc mc ms free) (vx_Post XC mc ms free) := vx_callBack cw.1 hM hp.1
  obtain ⟨⟨-, -, -, -, -, -, hcode, -, hy, hlen, hl⟩, hin, hse⟩ := cw
  obtain ⟨hx, hb, hml, ho, -⟩ := S
  obtain ⟨-, ⟨cellB, hcB, hoB, hclB⟩, hPc⟩ := hp
  intro T hT X
  rcases vx_callV X hx (C := C) (bytes := bytes) (maxL := maxL) (ret := ret) ho hl hin hse hcode hy hK (by rw [hT]; exact hcB) hoB hclB hg (hsize.trans hml.symm) (argsL := As) (rest := rest) (fun sig h => hn.trans (hlen sig h)) hstack hW (by rw [hb]; exact hdg)
    (fun vm₁ hW₁ => ⟨hf.1, hf.2, hPc (T.setVm vm₁) hT hW₁⟩) with ⟨v, vm₁, ⟨U', l2, c2, s2⟩, hW₁, X', ⟨g', mk, t, L, e1, e2, hq, h1, hL, h2, h3⟩, st⟩ | ⟨q, vm₁, ⟨U', l2, c2, s2⟩, hW₁, X', ⟨g', mk, t, L, E, ce, e1, e2, hq, hce, hcv, hcl, h1, hL, h2, h3⟩, st⟩
  · dsimp only [Pt.U, Pt.locs, Pt.cells, Pt.slots] at X' e1 e2 h1 h2 h3 st
    subst h1; subst h2; subst h3
    exact Or.inl ⟨v, (T.setVm vm₁).calling g' mk (Value.ref b :: As).toArray, t, U', L, hT, X', hL, e1, e2, hq, st⟩
  · dsimp only [Pt.U, Pt.locs, Pt.cells, Pt.slots] at X' e1 e2 h1 h2 h3 st hcl
    subst h1; subst h2; subst h3
    exact Or.inr ⟨q, (T.setVm vm₁).calling g' mk (Value.ref b :: As).toArray, t, U', L, E, ce, hT, X', hL, e1, e2, hq, hce, hcv, vx_cls hW₁ hcl, st⟩
theorem vx_runS (S : CallFix p m c cc nL s args Ts own) (hM : vx_Met l y ws rm Pc Qc XC mc ms free) (cw : CallB R s args own index y bytes maxL ret ws rm mc ms n ∧ (Cond.static y).before args s = true) (hp : PreS s H Pc As)
    (hg : g.method = m) (hn : As.length = n) (hsize : g.locals.size = nL) (hstack : g.stack = As.reverse ++ rest) (hW : 2 * g.monitorRoom + (rest.map fun v => v.category).sum ≤ 8) (hdg : decode cc g.pc = .ok (.invokestatic index, 3)) (hf : cells + mc ≤ R.cells ∧ slots + ms ≤ R.slots) :
    vx_Run p l e R s m args below meth c H locs cells slots mc ms g rest (Qc As.toArray) XC free := by
  have hK : vx_Back l R p e below s args y 3 8 (PreOf R mc ms Pc) (PostOf Qc mc ms free) (vx_Post XC mc ms free) := vx_callBack cw.1 hM hp.1
  obtain ⟨⟨-, -, -, -, -, -, hcode, hini, hy, hlen, hl⟩, hstt⟩ := cw
  obtain ⟨hx, hb, hml, ho, -⟩ := S
  intro T hT X
  rcases vx_callS X hx (bytes := bytes) (maxL := maxL) (ret := ret) ho hl hstt hini hcode hy hK hg (hsize.trans hml.symm) (argsL := As) (rest := rest) (fun sig h => hn.trans (hlen sig h)) hstack hW (by rw [hb]; exact hdg)
    (fun vm₁ hW₁ => ⟨hf.1, hf.2, hp.2 (T.setVm vm₁) hT hW₁⟩) with ⟨v, vm₁, ⟨U', l2, c2, s2⟩, hW₁, X', ⟨g', mk, t, L, e1, e2, hq, h1, hL, h2, h3⟩, st⟩ | ⟨q, vm₁, ⟨U', l2, c2, s2⟩, hW₁, X', ⟨g', mk, t, L, E, ce, e1, e2, hq, hce, hcv, hcl, h1, hL, h2, h3⟩, st⟩
  · dsimp only [Pt.U, Pt.locs, Pt.cells, Pt.slots] at X' e1 e2 h1 h2 h3 st
    subst h1; subst h2; subst h3
    exact Or.inl ⟨v, (T.setVm vm₁).calling g' mk As.toArray, t, U', L, hT, X', hL, e1, e2, hq, st⟩
  · dsimp only [Pt.U, Pt.locs, Pt.cells, Pt.slots] at X' e1 e2 h1 h2 h3 st hcl
    subst h1; subst h2; subst h3
    exact Or.inr ⟨q, (T.setVm vm₁).calling g' mk As.toArray, t, U', L, E, ce, hT, X', hL, e1, e2, hq, hce, hcv, vx_cls hW₁ hcl, st⟩
end Runs
section Rows
variable {p : Program} {l : Launch} {e : Env} {R : Room} {s : State} {m : MethodId} {args : Array Value} {below : List Frame} {meth : Method} {c : Code} {H : Heap} {locs : List Loc} {cells slots : Nat} {Q : State → Prop}
variable {mc ms : Nat} {free : Addr → Prop} {A0 A1 : Nat → Prop} {H0 : Heap} {a : Array Value} {pc : Nat} {ls : Array Slot} {st0 rest : List Value}
theorem vx_keep {st₀ t T' : State} {L : List Loc} (h0 : st₀.heap = H) (e1 : T'.heap = t.heap) (hS : va_S A0 H0 H locs) (hA : ∀ q, q < H.size → A1 q → A0 q) (hf : ∀ q, free q → A0 q) (hL : ∀ q ∈ L, free q.base) (hF : va_F A1 st₀ t) :
    H.size ≤ T'.heap.size ∧ (∀ q : Nat, q < H.size → ¬ A1 q → T'.heap[q]? = H[q]?) ∧ va_S A0 H0 T'.heap (locs ++ L) := by
  obtain ⟨hz, hk⟩ := hF
  rw [h0] at hz hk
  exact ⟨by rw [e1]; exact hz, fun q h1 h2 => by rw [e1]; exact hk q h1 h2,
    ⟨Nat.le_trans hS.1 (by rw [e1]; exact hz), fun q h1 h2 => by rw [e1, hk q (Nat.lt_of_lt_of_le h1 hS.1) (fun z => h2 (hA q (Nat.lt_of_lt_of_le h1 hS.1) z))]; exact hS.2.1 q h1 h2, fun q hq => by
      rcases List.mem_append.mp hq with h | h
      · exact hS.2.2 q h
      · exact hf _ (hL q h)⟩⟩
theorem vx_calli {S SX : Type} {post : Int32 → S → Prop} {px : SX → Prop} {B : S → State → Prop} {BX : String → SX → State → Prop} {AX : Nat → Prop} (hr : vx_Run p l e R s m args below meth c H locs cells slots mc ms (F0 m pc ls st0) rest (va_Qi post B A1 a) (vx_X px BX AX) free) (hS : va_S A0 H0 H locs) (hA : ∀ q, q < H.size → A1 q → A0 q) (hf : ∀ q, free q → A0 q) (hAX : ∀ q, q < H.size → AX q → A0 q)
    (kx : ∀ (E : String) (ce : Cell) (q9 : Addr) (u : SX) (t : State) (H1 : Heap) (locs1 : List Loc), t.heap = H1 → s.vm.Alike t.vm → px u → BX E u t → H.size ≤ H1.size → (∀ q : Nat, q < H.size → ¬ AX q → H1[q]? = H[q]?) → va_S A0 H0 H1 locs1 → H1[q9]? = some ce → ce.vm = .none → s.vm.findClass E = some ce.cls → vx_W p l e R s m args below meth c H1 locs1 (cells + mc) (slots + ms) Q (F0 m pc ls rest) q9)
    (kk : ∀ (r : Int32) (u : S) (t : State) (H1 : Heap) (locs1 : List Loc), t.heap = H1 → s.vm.Alike t.vm → post r u → B u t → H.size ≤ H1.size → (∀ q : Nat, q < H.size → ¬ A1 q → H1[q]? = H[q]?) → va_S A0 H0 H1 locs1 → W p l e R s m args below meth c H1 locs1 (cells + mc) (slots + ms) Q (F0 m (pc + 3) ls (.int r :: rest))) : W p l e R s m args below meth c H locs cells slots Q (F0 m pc ls st0) := by
  intro T hT X
  rcases hr T hT X with ⟨v, st₀, t, T', L, h0, X', hL, e1, e2, ⟨⟨r, u, hv, hp, hb⟩, hF⟩, st⟩ | ⟨q, st₀, t, T', L, E, ce, h0, X', hL, e1, e2, ⟨u, hp, hb, hF⟩, hce, hcv, hcl, st⟩
  · cases hv
    obtain ⟨k1, k2, k3⟩ := vx_keep h0 e1 hS hA hf hL hF
    obtain ⟨t2, a1, b1⟩ := kk r u t T'.heap (locs ++ L) e1.symm (by rw [← e2]; exact X'.warmed.alike) hp hb k1 k2 k3 T' rfl X'
    exact ⟨t2, st t2 a1, b1⟩
  · obtain ⟨k1, k2, k3⟩ := vx_keep h0 e1 hS hAX hf hL hF
    obtain ⟨t2, a1, b1⟩ := kx E ce q u t T'.heap (locs ++ L) e1.symm (by rw [← e2]; exact X'.warmed.alike) hp hb k1 k2 k3 (by rw [e1]; exact hce) hcv hcl T' rfl X'
    exact ⟨t2, st.trans a1, b1⟩
theorem vx_calll {S SX : Type} {post : Int64 → S → Prop} {px : SX → Prop} {B : S → State → Prop} {BX : String → SX → State → Prop} {AX : Nat → Prop} (hr : vx_Run p l e R s m args below meth c H locs cells slots mc ms (F0 m pc ls st0) rest (va_Ql post B A1 a) (vx_X px BX AX) free) (hS : va_S A0 H0 H locs) (hA : ∀ q, q < H.size → A1 q → A0 q) (hf : ∀ q, free q → A0 q) (hAX : ∀ q, q < H.size → AX q → A0 q)
    (kx : ∀ (E : String) (ce : Cell) (q9 : Addr) (u : SX) (t : State) (H1 : Heap) (locs1 : List Loc), t.heap = H1 → s.vm.Alike t.vm → px u → BX E u t → H.size ≤ H1.size → (∀ q : Nat, q < H.size → ¬ AX q → H1[q]? = H[q]?) → va_S A0 H0 H1 locs1 → H1[q9]? = some ce → ce.vm = .none → s.vm.findClass E = some ce.cls → vx_W p l e R s m args below meth c H1 locs1 (cells + mc) (slots + ms) Q (F0 m pc ls rest) q9)
    (kk : ∀ (r : Int64) (u : S) (t : State) (H1 : Heap) (locs1 : List Loc), t.heap = H1 → s.vm.Alike t.vm → post r u → B u t → H.size ≤ H1.size → (∀ q : Nat, q < H.size → ¬ A1 q → H1[q]? = H[q]?) → va_S A0 H0 H1 locs1 → W p l e R s m args below meth c H1 locs1 (cells + mc) (slots + ms) Q (F0 m (pc + 3) ls (.long r :: rest))) : W p l e R s m args below meth c H locs cells slots Q (F0 m pc ls st0) := by
  intro T hT X
  rcases hr T hT X with ⟨v, st₀, t, T', L, h0, X', hL, e1, e2, ⟨⟨r, u, hv, hp, hb⟩, hF⟩, st⟩ | ⟨q, st₀, t, T', L, E, ce, h0, X', hL, e1, e2, ⟨u, hp, hb, hF⟩, hce, hcv, hcl, st⟩
  · cases hv
    obtain ⟨k1, k2, k3⟩ := vx_keep h0 e1 hS hA hf hL hF
    obtain ⟨t2, a1, b1⟩ := kk r u t T'.heap (locs ++ L) e1.symm (by rw [← e2]; exact X'.warmed.alike) hp hb k1 k2 k3 T' rfl X'
    exact ⟨t2, st t2 a1, b1⟩
  · obtain ⟨k1, k2, k3⟩ := vx_keep h0 e1 hS hAX hf hL hF
    obtain ⟨t2, a1, b1⟩ := kx E ce q u t T'.heap (locs ++ L) e1.symm (by rw [← e2]; exact X'.warmed.alike) hp hb k1 k2 k3 (by rw [e1]; exact hce) hcv hcl T' rfl X'
    exact ⟨t2, st.trans a1, b1⟩
theorem vx_callf {S SX : Type} {post : UInt32 → S → Prop} {px : SX → Prop} {B : S → State → Prop} {BX : String → SX → State → Prop} {AX : Nat → Prop} (hr : vx_Run p l e R s m args below meth c H locs cells slots mc ms (F0 m pc ls st0) rest (va_Qf post B A1 a) (vx_X px BX AX) free) (hS : va_S A0 H0 H locs) (hA : ∀ q, q < H.size → A1 q → A0 q) (hf : ∀ q, free q → A0 q) (hAX : ∀ q, q < H.size → AX q → A0 q)
    (kx : ∀ (E : String) (ce : Cell) (q9 : Addr) (u : SX) (t : State) (H1 : Heap) (locs1 : List Loc), t.heap = H1 → s.vm.Alike t.vm → px u → BX E u t → H.size ≤ H1.size → (∀ q : Nat, q < H.size → ¬ AX q → H1[q]? = H[q]?) → va_S A0 H0 H1 locs1 → H1[q9]? = some ce → ce.vm = .none → s.vm.findClass E = some ce.cls → vx_W p l e R s m args below meth c H1 locs1 (cells + mc) (slots + ms) Q (F0 m pc ls rest) q9)
    (kk : ∀ (r : UInt32) (u : S) (t : State) (H1 : Heap) (locs1 : List Loc), t.heap = H1 → s.vm.Alike t.vm → post r u → B u t → H.size ≤ H1.size → (∀ q : Nat, q < H.size → ¬ A1 q → H1[q]? = H[q]?) → va_S A0 H0 H1 locs1 → W p l e R s m args below meth c H1 locs1 (cells + mc) (slots + ms) Q (F0 m (pc + 3) ls (.float r :: rest))) : W p l e R s m args below meth c H locs cells slots Q (F0 m pc ls st0) := by
  intro T hT X
  rcases hr T hT X with ⟨v, st₀, t, T', L, h0, X', hL, e1, e2, ⟨⟨r, u, hv, hp, hb⟩, hF⟩, st⟩ | ⟨q, st₀, t, T', L, E, ce, h0, X', hL, e1, e2, ⟨u, hp, hb, hF⟩, hce, hcv, hcl, st⟩
  · cases hv
    obtain ⟨k1, k2, k3⟩ := vx_keep h0 e1 hS hA hf hL hF
    obtain ⟨t2, a1, b1⟩ := kk r u t T'.heap (locs ++ L) e1.symm (by rw [← e2]; exact X'.warmed.alike) hp hb k1 k2 k3 T' rfl X'
    exact ⟨t2, st t2 a1, b1⟩
  · obtain ⟨k1, k2, k3⟩ := vx_keep h0 e1 hS hAX hf hL hF
    obtain ⟨t2, a1, b1⟩ := kx E ce q u t T'.heap (locs ++ L) e1.symm (by rw [← e2]; exact X'.warmed.alike) hp hb k1 k2 k3 (by rw [e1]; exact hce) hcv hcl T' rfl X'
    exact ⟨t2, st.trans a1, b1⟩
theorem vx_calld {S SX : Type} {post : UInt64 → S → Prop} {px : SX → Prop} {B : S → State → Prop} {BX : String → SX → State → Prop} {AX : Nat → Prop} (hr : vx_Run p l e R s m args below meth c H locs cells slots mc ms (F0 m pc ls st0) rest (va_Qd post B A1 a) (vx_X px BX AX) free) (hS : va_S A0 H0 H locs) (hA : ∀ q, q < H.size → A1 q → A0 q) (hf : ∀ q, free q → A0 q) (hAX : ∀ q, q < H.size → AX q → A0 q)
    (kx : ∀ (E : String) (ce : Cell) (q9 : Addr) (u : SX) (t : State) (H1 : Heap) (locs1 : List Loc), t.heap = H1 → s.vm.Alike t.vm → px u → BX E u t → H.size ≤ H1.size → (∀ q : Nat, q < H.size → ¬ AX q → H1[q]? = H[q]?) → va_S A0 H0 H1 locs1 → H1[q9]? = some ce → ce.vm = .none → s.vm.findClass E = some ce.cls → vx_W p l e R s m args below meth c H1 locs1 (cells + mc) (slots + ms) Q (F0 m pc ls rest) q9)
    (kk : ∀ (r : UInt64) (u : S) (t : State) (H1 : Heap) (locs1 : List Loc), t.heap = H1 → s.vm.Alike t.vm → post r u → B u t → H.size ≤ H1.size → (∀ q : Nat, q < H.size → ¬ A1 q → H1[q]? = H[q]?) → va_S A0 H0 H1 locs1 → W p l e R s m args below meth c H1 locs1 (cells + mc) (slots + ms) Q (F0 m (pc + 3) ls (.double r :: rest))) : W p l e R s m args below meth c H locs cells slots Q (F0 m pc ls st0) := by
  intro T hT X
  rcases hr T hT X with ⟨v, st₀, t, T', L, h0, X', hL, e1, e2, ⟨⟨r, u, hv, hp, hb⟩, hF⟩, st⟩ | ⟨q, st₀, t, T', L, E, ce, h0, X', hL, e1, e2, ⟨u, hp, hb, hF⟩, hce, hcv, hcl, st⟩
  · cases hv
    obtain ⟨k1, k2, k3⟩ := vx_keep h0 e1 hS hA hf hL hF
    obtain ⟨t2, a1, b1⟩ := kk r u t T'.heap (locs ++ L) e1.symm (by rw [← e2]; exact X'.warmed.alike) hp hb k1 k2 k3 T' rfl X'
    exact ⟨t2, st t2 a1, b1⟩
  · obtain ⟨k1, k2, k3⟩ := vx_keep h0 e1 hS hAX hf hL hF
    obtain ⟨t2, a1, b1⟩ := kx E ce q u t T'.heap (locs ++ L) e1.symm (by rw [← e2]; exact X'.warmed.alike) hp hb k1 k2 k3 (by rw [e1]; exact hce) hcv hcl T' rfl X'
    exact ⟨t2, st.trans a1, b1⟩
theorem vx_callv {S SX : Type} {post : S → Prop} {px : SX → Prop} {B : S → State → Prop} {BX : String → SX → State → Prop} {AX : Nat → Prop} (hr : vx_Run p l e R s m args below meth c H locs cells slots mc ms (F0 m pc ls st0) rest (va_Qv post B A1 a) (vx_X px BX AX) free) (hS : va_S A0 H0 H locs) (hA : ∀ q, q < H.size → A1 q → A0 q) (hf : ∀ q, free q → A0 q) (hAX : ∀ q, q < H.size → AX q → A0 q)
    (kx : ∀ (E : String) (ce : Cell) (q9 : Addr) (u : SX) (t : State) (H1 : Heap) (locs1 : List Loc), t.heap = H1 → s.vm.Alike t.vm → px u → BX E u t → H.size ≤ H1.size → (∀ q : Nat, q < H.size → ¬ AX q → H1[q]? = H[q]?) → va_S A0 H0 H1 locs1 → H1[q9]? = some ce → ce.vm = .none → s.vm.findClass E = some ce.cls → vx_W p l e R s m args below meth c H1 locs1 (cells + mc) (slots + ms) Q (F0 m pc ls rest) q9)
    (kk : ∀ (u : S) (t : State) (H1 : Heap) (locs1 : List Loc), t.heap = H1 → s.vm.Alike t.vm → post u → B u t → H.size ≤ H1.size → (∀ q : Nat, q < H.size → ¬ A1 q → H1[q]? = H[q]?) → va_S A0 H0 H1 locs1 → W p l e R s m args below meth c H1 locs1 (cells + mc) (slots + ms) Q (F0 m (pc + 3) ls (rest))) : W p l e R s m args below meth c H locs cells slots Q (F0 m pc ls st0) := by
  intro T hT X
  rcases hr T hT X with ⟨v, st₀, t, T', L, h0, X', hL, e1, e2, ⟨⟨u, hv, hp, hb⟩, hF⟩, st⟩ | ⟨q, st₀, t, T', L, E, ce, h0, X', hL, e1, e2, ⟨u, hp, hb, hF⟩, hce, hcv, hcl, st⟩
  · cases hv
    obtain ⟨k1, k2, k3⟩ := vx_keep h0 e1 hS hA hf hL hF
    obtain ⟨t2, a1, b1⟩ := kk u t T'.heap (locs ++ L) e1.symm (by rw [← e2]; exact X'.warmed.alike) hp hb k1 k2 k3 T' rfl X'
    exact ⟨t2, st t2 a1, b1⟩
  · obtain ⟨k1, k2, k3⟩ := vx_keep h0 e1 hS hAX hf hL hF
    obtain ⟨t2, a1, b1⟩ := kx E ce q u t T'.heap (locs ++ L) e1.symm (by rw [← e2]; exact X'.warmed.alike) hp hb k1 k2 k3 (by rw [e1]; exact hce) hcv hcl T' rfl X'
    exact ⟨t2, st.trans a1, b1⟩
/-- caught by the row x of this method's table; the rows ahead don't take it -/
theorem vx_catch {own name : String} {E : String} {ce : Cell} {q : Addr} (hown : s.vm.findClass own = some m.cls) (pre : List ExceptionTableEntry) (x : ExceptionTableEntry) (suf : List ExceptionTableEntry) (hsplit : c.exceptionTable.toList = pre ++ x :: suf)
    (hpass : ∀ z ∈ pre, covers z pc = false ∨ (z.catchType ≠ 0 ∧ ∃ nm : String, (Cond.classLink own z.catchType nm).before args s = true ∧ va_Nc E nm s)) (hx : covers x pc = true) (h0 : x.catchType ≠ 0)
    (hlink : (Cond.classLink own x.catchType name).before args s = true) (hcast : (Cond.castable E name).before args s = true) (hcell : H[q]? = some ce) (hv : ce.vm = .none) (hcl : s.vm.findClass E = some ce.cls)
    (kk : W p l e R s m args below meth c H locs cells slots Q (F0 m x.handlerPc ls [.ref q])) : vx_W p l e R s m args below meth c H locs cells slots Q (F0 m pc ls rest) q := by
  intro T hT X
  have hpl : e.platform.magicAccessors = ({} : Platform).magicAccessors := by rw [X.admits.platform]
  obtain ⟨c3, c4, hc3, hc4, hasg⟩ := Cond.castable_spec hcast
  cases Option.some.inj (hc3.symm.trans hcl)
  obtain ⟨c5, hc5, hcl5⟩ := Cond.classLink_spec hown hlink e.platform hpl
  cases Option.some.inj (hc4.symm.trans hc5)
  obtain ⟨vm', X', st⟩ := X.thenCaughtThrough q (g := F0 m pc ls rest) rfl (Steps.refl _) (by rw [hT]; exact hcell) (by rw [hv]; rfl) (by obtain ⟨k9, h9, -⟩ := Vm.findClass_spec hcl; exact ⟨k9, h9⟩) pre x suf hsplit
    (fun z hz => by
      rcases hpass z hz with h | ⟨hz0, nm, hl1, hn1⟩
      · exact Or.inl h
      · obtain ⟨c6, hc6, hcl6⟩ := Cond.classLink_spec hown hl1 e.platform hpl
        obtain ⟨a8, b8, h1, h2, h3⟩ := hn1
        cases Option.some.inj (h1.symm.trans hcl)
        cases Option.some.inj (h2.symm.trans hc6)
        exact Or.inr ⟨hz0, _, hcl6, h3⟩) hx (Or.inr ⟨h0, c4, hcl5, hasg⟩)
  obtain ⟨t, a1, b1⟩ := kk (T.setVm vm') hT X'
  exact ⟨t, st.trans a1, b1⟩
end Rows
section Ends
variable {p : Program} {l : Launch} {e : Env} {R : Room} {s : State} {m : MethodId} {args : Array Value} {below : List Frame} {meth : Method} {c : Code} {H : Heap} {locs : List Loc} {cells slots : Nat} {Q : State → Prop}
variable {mc ms : Nat} {free : Addr → Prop} {A0 A1 : Nat → Prop} {H0 : Heap} {a : Array Value} {ls : Array Slot} {st0 rest : List Value}
variable {Qc : Array Value → State → Outcome → State → Prop} {XC : String → State → State → Prop}
/-- what a body that may throw owes at its end -/
def vx_MQ (below : List Frame) (Qc : Array Value → State → Outcome → State → Prop) (XC : String → State → State → Prop) (a : Array Value) (s : State) (mc ms : Nat) (free : Addr → Prop) : State → Prop := fun t =>
  ∃ o, t.status = .running ∧ Ended t below o ∧ vx_Q Qc XC mc ms free a s o t
theorem vx_ret {g : JFrame} {mc ms : Nat} (k : W p l e R s m args below meth c H locs cells slots (MQ below Qc args s mc ms free) g) : W p l e R s m args below meth c H locs cells slots (vx_MQ below Qc XC args s mc ms free) g := by
  intro T hT X
  obtain ⟨t, a1, o, b1, b2, b3, b4⟩ := k T hT X
  exact ⟨t, a1, o, b1, b2, Or.inl ⟨b3, b4⟩⟩
/-- not caught here: it goes on to the caller -/
theorem vx_widen {g : JFrame} {q : Addr} {k n : Nat} (h1 : cells ≤ k) (h2 : slots ≤ n) (kk : vx_W p l e R s m args below meth c H locs k n Q g q) : vx_W p l e R s m args below meth c H locs cells slots Q g q := fun T hT X => kk T hT (stand_widen X h1 h2)
theorem vx_out {pc : Nat} {E : String} {ce : Cell} {q : Addr} {mc ms : Nat} (hout : ∀ x ∈ c.exceptionTable.toList, covers x pc = false) (hlocks : meth.locks = false) (hcell : H[q]? = some ce) (hv : ce.vm = .none) (hcl : s.vm.findClass E = some ce.cls)
    (hx : ∀ t : State, t.heap = H → s.vm.Alike t.vm → XC E s t) (hf : ∀ z ∈ locs, free z.base) (hc : cells ≤ mc) (hs : slots ≤ ms) :
    vx_W p l e R s m args below meth c H locs cells slots (vx_MQ below Qc XC args s mc ms free) (F0 m pc ls rest) q := by
  intro T hT X
  obtain ⟨st1, hrun, hend, hW, hsm⟩ := X.leaveThrown q (g := F0 m pc ls rest) rfl rfl rfl hout hlocks
  have hcell9 : (T.setFrames (.throwing q :: below)).heap[q]? = some ce := by
    show T.heap[q]? = some ce
    rw [hT]; exact hcell
  exact ⟨_, st1, .threw q, hrun, hend, Or.inr ⟨q, rfl, E, ce, locs, hx _ hT hW.alike, hcell9, hv, hcl, hW, hsm.mono hc hs, hf⟩⟩
theorem vx_frame {U : State} {k n : Nat} (h : s.sameButNew ({ U with vm := s.vm } : State) locs k n) : s.heap.size ≤ U.heap.size ∧ ∀ q : Nat, q < s.heap.size → (∀ z ∈ locs, z.base ≠ q) → U.heap[q]? = s.heap[q]? := by
  obtain ⟨-, h2, -, -, -, h6⟩ := h
  refine ⟨h2, fun q hq hz => ?_⟩
  obtain ⟨c9, e1, e2, e3, e4⟩ := h6 q _ (Array.getElem?_eq_getElem hq)
  have hs : c9.slots = (s.heap[q]).slots := Array.ext_getElem? fun i => e4 i fun hm => hz _ hm rfl
  have h9 : c9 = s.heap[q] := by
    rw [hs] at e2
    exact e2
  have e5 : U.heap[q]? = some c9 := e1
  rw [e5, h9, Array.getElem?_eq_getElem hq]
/-- the words of a throw but the four that speak of the heap -/
def vx_no (w : Cond) : Bool := decide (w ≠ .isRef (.static Bundle.tN "UNASSIGNED_STACK" Bundle.steD)) && decide (w ≠ .isRef (.static Bundle.tN "SUPPRESSED_SENTINEL" Bundle.listD)) && decide (w ≠ .laysStatic Bundle.tN "UNASSIGNED_STACK" Bundle.steD) && decide (w ≠ .laysStatic Bundle.tN "SUPPRESSED_SENTINEL" Bundle.listD)
def vx_at0 (own : String) (ic : Nat) (X : String) (names : List String) : List Cond := (Bundle.ownAtoms0 own ic X names).filter vx_no
def vx_atS (own : String) (ic : Nat) (X : String) (names : List String) : List Cond := (Bundle.ownAtoms own ic X names).filter vx_no
/-- a word that the tables alone decide, or a good one -/
def vx_ot (w : Cond) : Bool := w.onTables || goodWord w
theorem vx_ot_at {args a' : Array Value} {s U : State} {w : Cond} (hW : s.WarmedH U.vm) (hvm : s.vm = U.vm) (hg : vx_ot w = true) (h : w.before args s = true) : w.before a' U = true := by
  simp only [vx_ot, Bool.or_eq_true] at hg
  rcases hg with hg | hg
  · exact va_tabs hg hvm h
  · exact word_at hW (good_of_word hg) h
/-- a list's words: the good ones out of the method's own list, the others by premises of their own -/
theorem vx_hat {args : Array Value} {s : State} {L B : List Cond} (h1 : ∀ w ∈ L.filter goodWord, w.before args s = true) (h2 : ∀ w ∈ L.filter (fun w => !goodWord w), w ∈ B) (h3 : ∀ w ∈ B, w.before args s = true) : ∀ w ∈ L, w.before args s = true := by
  intro w hw
  by_cases g : goodWord w = true
  · exact h1 w (List.mem_filter.mpr ⟨hw, g⟩)
  · refine h3 w (h2 w (List.mem_filter.mpr ⟨hw, ?_⟩))
    show (!goodWord w) = true
    cases hgw : goodWord w
    · rfl
    · exact absurd hgw g
theorem vx_c {args : Array Value} {s : State} {w : Cond} {B : List Cond} (h : w.before args s = true) (t : ∀ w ∈ B, w.before args s = true) : ∀ w' ∈ w :: B, w'.before args s = true := fun w' h' => (List.mem_cons.mp h').elim (fun e => by rw [e]; exact h) (t w')
theorem vx_n {args : Array Value} {s : State} : ∀ w ∈ ([] : List Cond), w.before args s = true := fun _ h => nomatch h
theorem vx_own {args : Array Value} {s : State} {L : List Cond} (h1 : ∀ w ∈ L.filter vx_no, w.before args s = true)
    (hU : (Cond.isRef (.static Bundle.tN "UNASSIGNED_STACK" Bundle.steD)).before args s = true) (hN : (Cond.isRef (.static Bundle.tN "SUPPRESSED_SENTINEL" Bundle.listD)).before args s = true)
    (lU : (Cond.laysStatic Bundle.tN "UNASSIGNED_STACK" Bundle.steD).before args s = true) (lN : (Cond.laysStatic Bundle.tN "SUPPRESSED_SENTINEL" Bundle.listD).before args s = true) : ∀ w ∈ L, w.before args s = true := by
  intro w hw
  by_cases e1 : w = .isRef (.static Bundle.tN "UNASSIGNED_STACK" Bundle.steD)
  · rw [e1]; exact hU
  · by_cases e2 : w = .isRef (.static Bundle.tN "SUPPRESSED_SENTINEL" Bundle.listD)
    · rw [e2]; exact hN
    · by_cases e3 : w = .laysStatic Bundle.tN "UNASSIGNED_STACK" Bundle.steD
      · rw [e3]; exact lU
      · by_cases e4 : w = .laysStatic Bundle.tN "SUPPRESSED_SENTINEL" Bundle.listD
        · rw [e4]; exact lN
        · exact h1 w (List.mem_filter.mpr ⟨hw, by unfold vx_no; rw [decide_eq_true e1, decide_eq_true e2, decide_eq_true e3, decide_eq_true e4]; rfl⟩)
/-- where a static field lies, its class's statics cell in H -/
def vx_L (C n d : String) (A : Nat → Prop) (U : State) (H : Heap) : Prop := ∃ (c : ClassId) (k : Class) (i : Nat) (f : Field) (a : Nat) (cell : Cell), U.vm.findClass C = some c ∧ U.fieldFound? C n d = some (c, k, i, f) ∧ f.isStatic = true ∧ k.statics = some a ∧ H[a]? = some cell ∧ cell.vm.isStatics = true ∧ cell.cls = c ∧ f.slot < cell.slots.size ∧ k.staticTypes[f.slot]? = some f.type ∧ ¬ A a
theorem vx_L.moved {C n d : String} {A : Nat → Prop} {u U : State} {H : Heap} (hvm : u.vm.Alike U.vm) (h : vx_L C n d A u H) : vx_L C n d A U H := by
  obtain ⟨c, k, i, f, a, cell, h1, h2, h3, h4, h5, h6, h7, h8, h9, h10⟩ := h
  obtain ⟨k', hi', he⟩ := State.fieldFound?_setVm hvm h2
  exact ⟨c, k', i, f, a, cell, by rw [hvm.findClass]; exact h1, hi', h3, by rw [he]; exact h4, h5, h6, h7, h8, by rw [he]; exact h9, h10⟩
theorem vx_L.kept {C n d : String} {A : Nat → Prop} {U : State} {H H1 : Heap} (h : vx_L C n d A U H) (hq : ∀ a : Nat, a < H.size → ¬ A a → H1[a]? = H[a]?) : vx_L C n d A U H1 := by
  obtain ⟨c, k, i, f, a, cell, h1, h2, h3, h4, h5, h6, h7, h8, h9, h10⟩ := h
  exact ⟨c, k, i, f, a, cell, h1, h2, h3, h4, by rw [hq a (Array.getElem?_eq_some_iff.mp h5).1 h10]; exact h5, h6, h7, h8, h9, h10⟩
theorem vx_L.narrow {C n d : String} {A B : Nat → Prop} {U : State} {H : Heap} (h : vx_L C n d A U H) (hAB : ∀ q, B q → A q) : vx_L C n d B U H := by
  obtain ⟨c, k, i, f, a, cell, h1, h2, h3, h4, h5, h6, h7, h8, h9, h10⟩ := h
  exact ⟨c, k, i, f, a, cell, h1, h2, h3, h4, h5, h6, h7, h8, h9, fun z => h10 (hAB _ z)⟩
theorem vx_L.word {C n d : String} {A : Nat → Prop} {s : State} {args : Array Value} (h : vx_L C n d A s s.heap) : (Cond.laysStatic C n d).before args s = true := by
  obtain ⟨c, k, i, f, a, cell, h1, h2, h3, h4, h5, h6, h7, h8, h9, -⟩ := h
  show (Cond.laysStatic C n d).holds args s none s [] = true
  exact Cond.laysStatic_of h1 h2 h3 h4 h5 h6 h7 h8 h9
/-- .. and what it holds: null or some reference -/
def vx_Zq (C n d : String) (A : Nat → Prop) (U : State) (H : Heap) : Prop := va_Zq C n d A U H ∧ vx_L C n d A U H
theorem vx_Zq.moved {C n d : String} {A : Nat → Prop} {u U : State} {H : Heap} (hvm : u.vm.Alike U.vm) (h : vx_Zq C n d A u H) : vx_Zq C n d A U H := ⟨va_Zq.moved hvm h.1, vx_L.moved hvm h.2⟩
theorem vx_Zq.kept {C n d : String} {A : Nat → Prop} {U : State} {H H1 : Heap} (h : vx_Zq C n d A U H) (hq : ∀ a : Nat, a < H.size → ¬ A a → H1[a]? = H[a]?) : vx_Zq C n d A U H1 := ⟨va_Zq.kept h.1 hq, vx_L.kept h.2 hq⟩
theorem vx_Zq.narrow {C n d : String} {A B : Nat → Prop} {U : State} {H : Heap} (h : vx_Zq C n d A U H) (hAB : ∀ q, B q → A q) : vx_Zq C n d B U H := ⟨va_Zq.narrow h.1 hAB, vx_L.narrow h.2 hAB⟩
theorem vx_Zqof {args : Array Value} {s : State} {C n d : String} {A : Nat → Prop} (hl : (Cond.laysStatic C n d).before args s = true) (hini : (Cond.initialized C).before args s = true) (h : (Cond.isRef (.static C n d)).before args s = true) (hA : ∀ a : Nat, a < s.heap.size → ¬ A a) : vx_Zq C n d A s s.heap := by
  refine ⟨va_Zqof hl hini h hA, ?_⟩
  obtain ⟨c, k, i, f, a, cell, h1, h2, h3, h4, h5, h6, h7, h8, h9⟩ := Cond.laysStatic_spec hl
  exact ⟨c, k, i, f, a, cell, h1, h2, h3, h4, h5, h6, h7, h8, h9, hA a (Array.getElem?_eq_some_iff.mp h5).1⟩
theorem vx_isRef {C n d : String} {v : Value} {A : Nat → Prop} {s : State} {args : Array Value} (h : va_Z C n d v A s s.heap) (hv : v.isRef = true) : (Cond.isRef (.static C n d)).before args s = true := by
  obtain ⟨cf, kf, fi, f, a, cell, h1, h2, h3, h4, h5, h6, h7, -⟩ := h
  have he : (Term.static C n d).eval args s none [] s = some v := by
    simp [Term.eval, State.fieldNamed?, h1, h2, h4, h5, h6, h7]
  simp only [Cond.before, Cond.holds, Cond.value, he]
  cases v <;> simp_all [Value.isRef]
theorem vx_isRefq {C n d : String} {A : Nat → Prop} {s : State} {args : Array Value} (h : va_Zq C n d A s s.heap) : (Cond.isRef (.static C n d)).before args s = true := by
  rcases h with h | ⟨t, h⟩
  · exact vx_isRef h rfl
  · exact vx_isRef h rfl
/-- the same frame, seen from here: as if the method were called anew in this heap -/
theorem vx_rebase {T : State} (X : Stand p l e R s m args below meth c T locs cells slots) {R' : Room} (hf : R'.frames ≤ R.frames) (hl : R'.locals ≤ R.locals) (hc : cells + R'.cells ≤ R.cells) (hs : slots + R'.slots ≤ R.slots) :
    Stand p l e R' ((T.setVm s.vm).setFrames (.invoking m args :: below)) m args below meth c T [] 0 0 := by
  have htop : (T.setVm s.vm).topJava?.isSome := X.here.top
  have hF : ((T.setVm s.vm).setFrames (.invoking m args :: below)).frames = .invoking m args :: below := State.frames_setFrames _ (State.cur_lt_of_top htop)
  obtain ⟨g₀, hg0⟩ := Option.isSome_iff_exists.mp htop
  obtain ⟨r, hr⟩ := State.topJava?_eq_some.mp hg0
  have hl9 : e.platform.stackLimits (T.setVm s.vm).me = e.platform.stackLimits s.me := X.limits
  have hb9 : (T.setVm s.vm).me.stackBytes = s.me.stackBytes := X.bytes
  refine ⟨X.admits, X.cas, X.clock, hF, ?_, X.hears, X.method, X.code, X.here, X.tail, X.warmed, ?_, ?_, ?_⟩
  · have h := X.room
    have hU : ((T.setVm s.vm).setFrames (.invoking m args :: below)).localsInUse = s.localsInUse := by
      rw [State.localsInUse_invoking hF (meth := meth) (c := c) X.method X.code, State.localsInUse_invoking X.frames X.method X.code]
    simp only [State.hasRoom, Bool.and_eq_true, decide_eq_true_eq] at h ⊢
    obtain ⟨⟨⟨⟨h1, h2, h3, h4, h5, h6⟩, h7⟩, h8⟩, h9⟩ := h
    rw [X.frames, List.length_cons] at h2 h3
    have q1 := X.heapSize
    have q2 := X.used
    simp only [hF, hU, List.length_cons, State.stackLimits_setFrames, State.stackBytes_setFrames, hl9, hb9]
    refine ⟨⟨⟨⟨by omega, by omega, by omega, by omega, by omega, h6⟩, ?_⟩, ?_⟩, X.book⟩
    · show T.heap.size + R'.cells ≤ e.platform.maxCells
      omega
    · show T.slotsUsed + R'.slots ≤ e.platform.maxSlots
      omega
  · rw [State.stackLimits_setFrames]; rfl
  · rw [State.stackBytes_setFrames]; rfl
  · refine ⟨?_, Nat.le_refl _, Nat.le_refl _, ?_, ?_, fun a c9 h9 => ⟨c9, h9, rfl, rfl, fun _ _ => rfl⟩⟩
    · obtain ⟨t, ht, -⟩ := State.frames_cons hr
      show T.setVm s.vm = { ((T.setVm s.vm).setFrames (.invoking m args :: below)).setFrames (T.setVm s.vm).frames with heap := T.heap, slotsUsed := T.slotsUsed }
      rw [State.setFrames_setFrames, State.setFrames_self ht]
      rfl
    · show T.slotsUsed = T.slotsUsed + ((T.heap.toList.drop T.heap.size).map (·.slots.size)).sum
      rw [List.drop_eq_nil_of_le (Nat.le_of_eq Array.length_toList)]
      rfl
    · show ((T.heap.toList.drop T.heap.size).map (·.slots.size)).sum ≤ 0
      rw [List.drop_eq_nil_of_le (Nat.le_of_eq Array.length_toList)]
      exact Nat.le_refl _
/-- 'throw new E()': new; dup; invokespecial; athrow -/
theorem vx_throw0 {cc : ByteArray} {pc : Nat} (hexec : p.tables.exec = Jvm.exec) (hb : c.code = cc) (hl : l.stackTraces = false) {own cls : String} {names : List String} {ik ic mc ms : Nat} {A : Nat → Prop}
    (hown : s.vm.findClass own = some m.cls) (hcls : Bundle.fit cls = true) (hnames : ∀ n ∈ names, Bundle.fit n = true)
    (hk : (Cond.classLink own ik cls).before args s = true) (hini : (Cond.initialized cls).before args s = true) (hat : ∀ w ∈ vx_at0 own ic cls names, w.before args s = true)
    (hgood : ∀ w ∈ Cond.classLink own ik cls :: Cond.initialized cls :: vx_at0 own ic cls names, vx_ot w = true)
    (hU : vx_Zq Bundle.tN "UNASSIGNED_STACK" Bundle.steD A s s.heap) (hN : vx_Zq Bundle.tN "SUPPRESSED_SENTINEL" Bundle.listD A s s.heap) (hS : va_S A s.heap H locs) (hsize : ls.size = c.maxLocals)
    (d0 : decode cc pc = .ok (.new ik, 3)) (d3 : decode cc (pc + 3) = .ok (.dup, 1)) (d4 : decode cc (pc + 4) = .ok (.invokespecial ic, 3)) (d7 : decode cc (pc + 7) = .ok (.athrow, 1))
    (hout : ∀ x ∈ c.exceptionTable.toList, covers x (pc + 7) = false)
    (hRframes : names.length + 3 < R.frames) (hRlocals : (rest.map fun v => v.category).sum + (13 * (names.length + 1) + 42) ≤ R.locals) (hRcells : cells + 1 ≤ R.cells) (hRslots : slots + 6 ≤ R.slots) (hlocks : meth.locks = false)
    (hx : ∀ t : State, s.vm.Alike t.vm → H.size ≤ t.heap.size → (∀ q : Nat, q < H.size → t.heap[q]? = H[q]?) → XC cls s t)
    (hf : ∀ z ∈ locs, free z.base) (hc : cells + 1 ≤ mc) (hs : slots + 6 ≤ ms) :
    W p l e R s m args below meth c H locs cells slots (vx_MQ below Qc XC args s mc ms free) (F0 m pc ls rest) := by
  intro T hT X
  have htr : e.platform.stackTraces = false := (show e.platform.stackTraces = l.stackTraces by rw [X.admits.platform]).trans hl
  have Y := vx_rebase X (R' := { frames := R.frames, locals := R.locals, cells := 1, slots := 6 }) (Nat.le_refl _) (Nat.le_refl _) hRcells hRslots
  obtain ⟨s', hA⟩ : ∃ z, z = (T.setVm s.vm).setFrames (.invoking m args :: below) := ⟨_, rfl⟩
  rw [← hA] at Y
  have hvm : s'.vm = s.vm := by rw [hA]; rfl
  have hhp : s'.heap = H := by rw [hA]; exact hT
  have hW0 : s.WarmedH s'.vm := by rw [hvm]; exact State.WarmedH.refl s
  have hat' : ∀ w ∈ vx_at0 own ic cls names, w.before args s' = true := fun w hw => vx_ot_at hW0 hvm.symm (hgood w (List.mem_cons_of_mem _ (List.mem_cons_of_mem _ hw))) (hat w hw)
  have hk' : (Cond.classLink own ik cls).before args s' = true := vx_ot_at hW0 hvm.symm (hgood _ List.mem_cons_self) hk
  have hini' : (Cond.initialized cls).before args s' = true := vx_ot_at hW0 hvm.symm (hgood _ (List.mem_cons_of_mem _ List.mem_cons_self)) hini
  have hU' : vx_Zq Bundle.tN "UNASSIGNED_STACK" Bundle.steD A s' s'.heap := by rw [hhp]; exact vx_Zq.moved hW0.alike (hU.kept hS.2.1)
  have hN' : vx_Zq Bundle.tN "SUPPRESSED_SENTINEL" Bundle.listD A s' s'.heap := by rw [hhp]; exact vx_Zq.moved hW0.alike (hN.kept hS.2.1)
  have h : ∀ w ∈ Bundle.ownAtoms0 own ic cls names, w.before args s' = true := vx_own hat' (vx_isRefq hU'.1) (vx_isRefq hN'.1) hU'.2.word hN'.2.word
  have hown' : s'.vm.findClass own = some m.cls := by rw [hvm]; exact hown
  have hins : (Cond.instantiable cls 6).before args s' = true := h _ (by simp [Bundle.ownAtoms0])
  obtain ⟨vm₁, cX, kX, hfX, hkX, -, -, X₁, st1⟩ := Y.newCold hexec (own := own) (C := cls) (index := ik) (n := 6) hown' hk' hins hini'
    (g := F0 m pc ls rest) rfl (by rw [hb]; exact d0) (Nat.le_refl _) (Nat.le_refl _)
  generalize hT1 : (T.setVm vm₁).pushCell { cls := cX, slots := kX.instanceTypes.map defaultValue, vm := .none } = T1 at X₁ st1
  have hcat : (Value.ref T.heap.size).category = 1 := rfl
  have hcellA : T1.heap[T.heap.size]? = some (freshCell cX kX) := by rw [← hT1]; exact State.heap_pushCell_size _ _
  have d3' : decode c.code (pc + 3) = .ok (.dup, 1) := by rw [hb]; exact d3
  obtain ⟨U, hsteps, hrun, hend, hW, hsame, ce, hce, hO⟩ := X₁.ctorThrow0 hexec htr (own := own) (cls := cls) (names := names) (ic := ic) hown' hcls hnames h (fun x hx => nomatch hx) hfX hkX hcellA (by rw [hhp, hT]; exact Nat.le_refl _)
    (g := { method := m, pc := pc + 4, locals := ls, stack := .ref T.heap.size :: .ref T.heap.size :: rest, locked := none }) rfl hsize rfl rfl (rest := rest) rfl
    (by rw [hb]; exact d4) (by rw [hb]; exact d7) hout hRframes (by simp only [List.map_cons, List.sum_cons, hcat]; omega) hlocks
  obtain ⟨f1, f2⟩ := vx_frame hsame
  rw [hhp] at f1 f2
  have hWs : s.WarmedH U.vm := State.WarmedH.trans hW0 hW
  have hcl : s.vm.findClass cls = some ce.cls := by
    have h9 := hO.cls
    rw [hvm] at h9
    exact h9
  have hall : s.sameButNew ({ U with vm := s.vm } : State) locs mc ms := by
    subst hA
    obtain ⟨e1, e2⟩ := hsame
    rw [State.setFrames_setFrames] at e1
    have h2 : (T.setVm s.vm).sameButNew ({ U with vm := s.vm } : State) [] (0 + 1) (0 + 6) := ⟨e1, e2⟩
    have h3 := X.same.trans h2
    rw [List.append_nil] at h3
    exact h3.mono hc hs
  refine ⟨U, ?_, .threw T.heap.size, hrun, hend, Or.inr ⟨T.heap.size, rfl, cls, ce, locs, hx U hWs.alike f1 (fun q hq => f2 q hq (fun z hz => nomatch hz)), hce, hO.vm, hcl, hWs, hall, hf⟩⟩
  refine st1 _ ?_
  show Steps p.tables e below (T1.setTop { method := m, pc := pc + 3, locals := ls, stack := .ref T.heap.size :: rest, locked := none }) _
  jvm_step X₁.here [X₁.here.top, hexec, d3', Value.category]
  exact hsteps
/-- 'throw new E("text")': new; dup; ldc; invokespecial; athrow -/
theorem vx_throwS {cc : ByteArray} {pc : Nat} (hexec : p.tables.exec = Jvm.exec) (hb : c.code = cc) (hl : l.stackTraces = false) {own cls text : String} {names : List String} {ik is ic mc ms sa : Nat} {A : Nat → Prop}
    (hown : s.vm.findClass own = some m.cls) (hcls : Bundle.fit cls = true) (hnames : ∀ n ∈ names, Bundle.fit n = true)
    (hk : (Cond.classLink own ik cls).before args s = true) (hini : (Cond.initialized cls).before args s = true) (hstr : vk_R own is text sa s) (hat : ∀ w ∈ vx_atS own ic cls names, w.before args s = true)
    (hgood : ∀ w ∈ Cond.classLink own ik cls :: Cond.initialized cls :: vx_atS own ic cls names, vx_ot w = true)
    (hU : vx_Zq Bundle.tN "UNASSIGNED_STACK" Bundle.steD A s s.heap) (hN : vx_Zq Bundle.tN "SUPPRESSED_SENTINEL" Bundle.listD A s s.heap) (hS : va_S A s.heap H locs) (hsize : ls.size = c.maxLocals)
    (d0 : decode cc pc = .ok (.new ik, 3)) (d3 : decode cc (pc + 3) = .ok (.dup, 1)) (d4 : decode cc (pc + 4) = .ok (.ldc is, 2)) (d6 : decode cc (pc + 6) = .ok (.invokespecial ic, 3)) (d9 : decode cc (pc + 9) = .ok (.athrow, 1))
    (hout : ∀ x ∈ c.exceptionTable.toList, covers x (pc + 9) = false)
    (hRframes : names.length + 3 < R.frames) (hRlocals : (rest.map fun v => v.category).sum + (13 * (names.length + 1) + 43) ≤ R.locals) (hRcells : cells + 1 ≤ R.cells) (hRslots : slots + 6 ≤ R.slots) (hlocks : meth.locks = false)
    (hx : ∀ t : State, s.vm.Alike t.vm → H.size ≤ t.heap.size → (∀ q : Nat, q < H.size → t.heap[q]? = H[q]?) → XC cls s t)
    (hf : ∀ z ∈ locs, free z.base) (hc : cells + 1 ≤ mc) (hs : slots + 6 ≤ ms) :
    W p l e R s m args below meth c H locs cells slots (vx_MQ below Qc XC args s mc ms free) (F0 m pc ls rest) := by
  intro T hT X
  have htr : e.platform.stackTraces = false := (show e.platform.stackTraces = l.stackTraces by rw [X.admits.platform]).trans hl
  have Y := vx_rebase X (R' := { frames := R.frames, locals := R.locals, cells := 1, slots := 6 }) (Nat.le_refl _) (Nat.le_refl _) hRcells hRslots
  obtain ⟨s', hA⟩ : ∃ z, z = (T.setVm s.vm).setFrames (.invoking m args :: below) := ⟨_, rfl⟩
  rw [← hA] at Y
  have hvm : s'.vm = s.vm := by rw [hA]; rfl
  have hhp : s'.heap = H := by rw [hA]; exact hT
  have hW0 : s.WarmedH s'.vm := by rw [hvm]; exact State.WarmedH.refl s
  have hat' : ∀ w ∈ vx_atS own ic cls names, w.before args s' = true := fun w hw => vx_ot_at hW0 hvm.symm (hgood w (List.mem_cons_of_mem _ (List.mem_cons_of_mem _ hw))) (hat w hw)
  have hk' : (Cond.classLink own ik cls).before args s' = true := vx_ot_at hW0 hvm.symm (hgood _ List.mem_cons_self) hk
  have hini' : (Cond.initialized cls).before args s' = true := vx_ot_at hW0 hvm.symm (hgood _ (List.mem_cons_of_mem _ List.mem_cons_self)) hini
  have hU' : vx_Zq Bundle.tN "UNASSIGNED_STACK" Bundle.steD A s' s'.heap := by rw [hhp]; exact vx_Zq.moved hW0.alike (hU.kept hS.2.1)
  have hN' : vx_Zq Bundle.tN "SUPPRESSED_SENTINEL" Bundle.listD A s' s'.heap := by rw [hhp]; exact vx_Zq.moved hW0.alike (hN.kept hS.2.1)
  have h : ∀ w ∈ Bundle.ownAtoms own ic cls names, w.before args s' = true := vx_own hat' (vx_isRefq hU'.1) (vx_isRefq hN'.1) hU'.2.word hN'.2.word
  have hown' : s'.vm.findClass own = some m.cls := by rw [hvm]; exact hown
  have hins : (Cond.instantiable cls 6).before args s' = true := h _ (by simp [Bundle.ownAtoms])
  obtain ⟨vm₁, cX, kX, hfX, hkX, -, -, X₁, st1⟩ := Y.newCold hexec (own := own) (C := cls) (index := ik) (n := 6) hown' hk' hins hini'
    (g := F0 m pc ls rest) rfl (by rw [hb]; exact d0) (Nat.le_refl _) (Nat.le_refl _)
  generalize hT1 : (T.setVm vm₁).pushCell { cls := cX, slots := kX.instanceTypes.map defaultValue, vm := .none } = T1 at X₁ st1
  have hcat : (Value.ref T.heap.size).category = 1 := rfl
  have hcellA : T1.heap[T.heap.size]? = some (freshCell cX kX) := by rw [← hT1]; exact State.heap_pushCell_size _ _
  have d3' : decode c.code (pc + 3) = .ok (.dup, 1) := by rw [hb]; exact d3
  have d4' : decode c.code (pc + 4) = .ok (.ldc is, 2) := by rw [hb]; exact d4
  have hstr' : vk_R own is text sa s' := vk_R.warm hW0 hstr
  obtain ⟨U, hsteps, hrun, hend, hW, hsame, ce, hce, hO⟩ := X₁.ctorThrowS hexec htr (own := own) (cls := cls) (names := names) (ic := ic) hown' hcls hnames h (fun x hx => nomatch hx) hfX hkX hcellA (by rw [hhp, hT]; exact Nat.le_refl _) (msg := .ref sa) rfl
    (g := { method := m, pc := pc + 6, locals := ls, stack := .ref sa :: .ref T.heap.size :: .ref T.heap.size :: rest, locked := none }) rfl hsize rfl rfl (rest := rest) rfl
    (by rw [hb]; exact d6) (by rw [hb]; exact d9) hout hRframes (by simp only [List.map_cons, List.sum_cons, hcat]; omega) hlocks
  obtain ⟨f1, f2⟩ := vx_frame hsame
  rw [hhp] at f1 f2
  have hWs : s.WarmedH U.vm := State.WarmedH.trans hW0 hW
  have hcl : s.vm.findClass cls = some ce.cls := by
    have h9 := hO.cls
    rw [hvm] at h9
    exact h9
  have hall : s.sameButNew ({ U with vm := s.vm } : State) locs mc ms := by
    subst hA
    obtain ⟨e1, e2⟩ := hsame
    rw [State.setFrames_setFrames] at e1
    have h2 : (T.setVm s.vm).sameButNew ({ U with vm := s.vm } : State) [] (0 + 1) (0 + 6) := ⟨e1, e2⟩
    have h3 := X.same.trans h2
    rw [List.append_nil] at h3
    exact h3.mono hc hs
  refine ⟨U, ?_, .threw T.heap.size, hrun, hend, Or.inr ⟨T.heap.size, rfl, cls, ce, locs, hx U hWs.alike f1 (fun q hq => f2 q hq (fun z hz => nomatch hz)), hce, hO.vm, hcl, hWs, hall, hf⟩⟩
  refine st1 _ ?_
  show Steps p.tables e below (T1.setTop { method := m, pc := pc + 3, locals := ls, stack := .ref T.heap.size :: rest, locked := none }) _
  jvm_step X₁.here [X₁.here.top, hexec, d3', Value.category]
  exact X₁.ldcString hexec (own := own) (text := text) (index := is) (a := sa) hown' hstr'.1 hstr'.2
    (g := { method := m, pc := pc + 4, locals := ls, stack := .ref T.heap.size :: .ref T.heap.size :: rest, locked := none }) rfl d4' _ hsteps
/-- 'throw new E("text")', the text by a wide index -/
theorem vx_throwSW {cc : ByteArray} {pc : Nat} (hexec : p.tables.exec = Jvm.exec) (hb : c.code = cc) (hl : l.stackTraces = false) {own cls text : String} {names : List String} {ik is ic mc ms sa : Nat} {A : Nat → Prop}
    (hown : s.vm.findClass own = some m.cls) (hcls : Bundle.fit cls = true) (hnames : ∀ n ∈ names, Bundle.fit n = true)
    (hk : (Cond.classLink own ik cls).before args s = true) (hini : (Cond.initialized cls).before args s = true) (hstr : vk_R own is text sa s) (hat : ∀ w ∈ vx_atS own ic cls names, w.before args s = true)
    (hgood : ∀ w ∈ Cond.classLink own ik cls :: Cond.initialized cls :: vx_atS own ic cls names, vx_ot w = true)
    (hU : vx_Zq Bundle.tN "UNASSIGNED_STACK" Bundle.steD A s s.heap) (hN : vx_Zq Bundle.tN "SUPPRESSED_SENTINEL" Bundle.listD A s s.heap) (hS : va_S A s.heap H locs) (hsize : ls.size = c.maxLocals)
    (d0 : decode cc pc = .ok (.new ik, 3)) (d3 : decode cc (pc + 3) = .ok (.dup, 1)) (d4 : decode cc (pc + 4) = .ok (.ldc_w is, 3)) (d7 : decode cc (pc + 7) = .ok (.invokespecial ic, 3)) (d10 : decode cc (pc + 10) = .ok (.athrow, 1))
    (hout : ∀ x ∈ c.exceptionTable.toList, covers x (pc + 10) = false)
    (hRframes : names.length + 3 < R.frames) (hRlocals : (rest.map fun v => v.category).sum + (13 * (names.length + 1) + 43) ≤ R.locals) (hRcells : cells + 1 ≤ R.cells) (hRslots : slots + 6 ≤ R.slots) (hlocks : meth.locks = false)
    (hx : ∀ t : State, s.vm.Alike t.vm → H.size ≤ t.heap.size → (∀ q : Nat, q < H.size → t.heap[q]? = H[q]?) → XC cls s t)
    (hf : ∀ z ∈ locs, free z.base) (hc : cells + 1 ≤ mc) (hs : slots + 6 ≤ ms) :
    W p l e R s m args below meth c H locs cells slots (vx_MQ below Qc XC args s mc ms free) (F0 m pc ls rest) := by
  intro T hT X
  have htr : e.platform.stackTraces = false := (show e.platform.stackTraces = l.stackTraces by rw [X.admits.platform]).trans hl
  have Y := vx_rebase X (R' := { frames := R.frames, locals := R.locals, cells := 1, slots := 6 }) (Nat.le_refl _) (Nat.le_refl _) hRcells hRslots
  obtain ⟨s', hA⟩ : ∃ z, z = (T.setVm s.vm).setFrames (.invoking m args :: below) := ⟨_, rfl⟩
  rw [← hA] at Y
  have hvm : s'.vm = s.vm := by rw [hA]; rfl
  have hhp : s'.heap = H := by rw [hA]; exact hT
  have hW0 : s.WarmedH s'.vm := by rw [hvm]; exact State.WarmedH.refl s
  have hat' : ∀ w ∈ vx_atS own ic cls names, w.before args s' = true := fun w hw => vx_ot_at hW0 hvm.symm (hgood w (List.mem_cons_of_mem _ (List.mem_cons_of_mem _ hw))) (hat w hw)
  have hk' : (Cond.classLink own ik cls).before args s' = true := vx_ot_at hW0 hvm.symm (hgood _ List.mem_cons_self) hk
  have hini' : (Cond.initialized cls).before args s' = true := vx_ot_at hW0 hvm.symm (hgood _ (List.mem_cons_of_mem _ List.mem_cons_self)) hini
  have hU' : vx_Zq Bundle.tN "UNASSIGNED_STACK" Bundle.steD A s' s'.heap := by rw [hhp]; exact vx_Zq.moved hW0.alike (hU.kept hS.2.1)
  have hN' : vx_Zq Bundle.tN "SUPPRESSED_SENTINEL" Bundle.listD A s' s'.heap := by rw [hhp]; exact vx_Zq.moved hW0.alike (hN.kept hS.2.1)
  have h : ∀ w ∈ Bundle.ownAtoms own ic cls names, w.before args s' = true := vx_own hat' (vx_isRefq hU'.1) (vx_isRefq hN'.1) hU'.2.word hN'.2.word
  have hown' : s'.vm.findClass own = some m.cls := by rw [hvm]; exact hown
  have hins : (Cond.instantiable cls 6).before args s' = true := h _ (by simp [Bundle.ownAtoms])
  obtain ⟨vm₁, cX, kX, hfX, hkX, -, -, X₁, st1⟩ := Y.newCold hexec (own := own) (C := cls) (index := ik) (n := 6) hown' hk' hins hini'
    (g := F0 m pc ls rest) rfl (by rw [hb]; exact d0) (Nat.le_refl _) (Nat.le_refl _)
  generalize hT1 : (T.setVm vm₁).pushCell { cls := cX, slots := kX.instanceTypes.map defaultValue, vm := .none } = T1 at X₁ st1
  have hcat : (Value.ref T.heap.size).category = 1 := rfl
  have hcellA : T1.heap[T.heap.size]? = some (freshCell cX kX) := by rw [← hT1]; exact State.heap_pushCell_size _ _
  have d3' : decode c.code (pc + 3) = .ok (.dup, 1) := by rw [hb]; exact d3
  have d4' : decode c.code (pc + 4) = .ok (.ldc_w is, 3) := by rw [hb]; exact d4
  have hstr' : vk_R own is text sa s' := vk_R.warm hW0 hstr
  obtain ⟨U, hsteps, hrun, hend, hW, hsame, ce, hce, hO⟩ := X₁.ctorThrowS hexec htr (own := own) (cls := cls) (names := names) (ic := ic) hown' hcls hnames h (fun x hx => nomatch hx) hfX hkX hcellA (by rw [hhp, hT]; exact Nat.le_refl _) (msg := .ref sa) rfl
    (g := { method := m, pc := pc + 7, locals := ls, stack := .ref sa :: .ref T.heap.size :: .ref T.heap.size :: rest, locked := none }) rfl hsize rfl rfl (rest := rest) rfl
    (by rw [hb]; exact d7) (by rw [hb]; exact d10) hout hRframes (by simp only [List.map_cons, List.sum_cons, hcat]; omega) hlocks
  obtain ⟨f1, f2⟩ := vx_frame hsame
  rw [hhp] at f1 f2
  have hWs : s.WarmedH U.vm := State.WarmedH.trans hW0 hW
  have hcl : s.vm.findClass cls = some ce.cls := by
    have h9 := hO.cls
    rw [hvm] at h9
    exact h9
  have hall : s.sameButNew ({ U with vm := s.vm } : State) locs mc ms := by
    subst hA
    obtain ⟨e1, e2⟩ := hsame
    rw [State.setFrames_setFrames] at e1
    have h2 : (T.setVm s.vm).sameButNew ({ U with vm := s.vm } : State) [] (0 + 1) (0 + 6) := ⟨e1, e2⟩
    have h3 := X.same.trans h2
    rw [List.append_nil] at h3
    exact h3.mono hc hs
  refine ⟨U, ?_, .threw T.heap.size, hrun, hend, Or.inr ⟨T.heap.size, rfl, cls, ce, locs, hx U hWs.alike f1 (fun q hq => f2 q hq (fun z hz => nomatch hz)), hce, hO.vm, hcl, hWs, hall, hf⟩⟩
  refine st1 _ ?_
  show Steps p.tables e below (T1.setTop { method := m, pc := pc + 3, locals := ls, stack := .ref T.heap.size :: rest, locked := none }) _
  jvm_step X₁.here [X₁.here.top, hexec, d3', Value.category]
  exact X₁.ldcStringW hexec (own := own) (text := text) (index := is) (a := sa) hown' hstr'.1 hstr'.2
    (g := { method := m, pc := pc + 4, locals := ls, stack := .ref T.heap.size :: .ref T.heap.size :: rest, locked := none }) rfl d4' _ hsteps
end Ends
section Bodies
variable {l : Launch}
theorem vx_ofW {y : MethodName} {ws ws' : List Cond} {rm : Room} {Pc : Array Value → State → Prop} {Qc : Array Value → State → Outcome → State → Prop} {XC : String → State → State → Prop} {mc ms : Nat} {free : Addr → Prop} {cc : ByteArray} {maxL : Nat} {ret : Option FieldType}
    (hy : plainName y.cls = true) (hw : ws = Cond.code y cc maxL ret :: ws')
    (body : ∀ p e s m args below meth c s₁, BodyLoose p l y (headSpec ws rm) cc maxL ret e s m args below meth c s₁ → c.maxLocals = maxL → (∀ x ∈ c.exceptionTable.toList, False) → Pc args s →
      W p l e (headSpec ws rm).room s m args below meth c s.heap [] 0 0 (vx_MQ below Qc XC args s mc ms free) (entryFrame m args maxL)) : vx_Met l y ws rm Pc Qc XC mc ms free := by
  refine MetFree.of_bodyS (code := cc) (maxLocals := maxL) (ret := ret) hy ?_ ?_
  · intro args s m h hn
    obtain ⟨meth, c, h1, h2, h3, h4, h5, h6, -, -⟩ := Cond.code_spec hn (atoms_spec (ws := ws) h _ (by rw [hw]; exact List.mem_cons_self))
    exact ⟨meth, c, h1, h2, h3, h4, h5, h6⟩
  · intro p e s m args below meth c s₁ B hml hP _
    have hh0 : s₁.heap = s.heap := by rw [B.state]; rfl
    have ht : ∀ x ∈ c.exceptionTable.toList, False := by
      obtain ⟨meth9, c9, h1, h2, -, -, -, -, h7, -⟩ := Cond.code_spec B.named (atoms_spec (ws := ws) B.pre _ (by rw [hw]; exact List.mem_cons_self))
      cases Option.some.inj (h1.symm.trans B.method)
      cases Option.some.inj (h2.symm.trans (Stand.of_body B).code)
      intro x hx
      rw [Array.isEmpty_iff.mp h7] at hx
      cases hx
    obtain ⟨t, a1, o, b1, b2, b3⟩ := body p e s m args below meth c s₁ B hml ht hP s₁ hh0 (Stand.of_body B)
    exact ⟨t, o, a1, b1, b2, b3⟩
/-- the table of a body with handlers -/
theorem vx_table {p : Program} {x y : MethodName} {S : Spec} {cc bytes : ByteArray} {maxL maxL' : Nat} {ret ret' : Option FieldType} {e : Env} {s s₁ : State} {m : MethodId} {args : Array Value} {below : List Frame} {meth : Method} {c : Code} {hh : List (Nat × Nat × Nat × Nat)}
    (B : BodyLoose p l y S cc maxL ret e s m args below meth c s₁) (h : (Cond.codeWith y bytes maxL' ret' hh).before args s = true) : c.exceptionTable.toList = tableOf hh := by
  obtain ⟨m9, meth9, c9, hn9, h1, h2, -, -, h6, -⟩ := Cond.codeWith_spec h
  cases Option.some.inj (hn9.symm.trans B.named)
  cases Option.some.inj (h1.symm.trans B.method)
  cases Option.some.inj (h2.symm.trans (Stand.of_body B).code)
  rw [← h6, table_eq]
end Bodies
end VXA
/-! ===== END ===== -/
/-! ===== BEGIN a static call of a method with an exception table ===== -/
section VXS
variable {p : Program} {l : Launch} {e : Env} {R : Room} {s : State} {m : MethodId} {args : Array Value} {below : List Frame} {meth : Method} {c : Code} {T : State} {H : Heap} {locs : List Loc} {cells slots : Nat}
abbrev vx_CSW (R : Room) (s : State) (args : Array Value) (own : String) (index : Nat) (y : MethodName) (bytes : ByteArray) (maxL : Nat) (ret : Option FieldType) (hh : List (Nat × Nat × Nat × Nat)) (ws : List Cond) (rm : Room) (mc ms n : Nat) : Prop :=
  (rm.cells = mc ∧ rm.slots = ms ∧ rm.frames + 1 ≤ R.frames ∧ 8 + (maxL + 11) + rm.locals ≤ R.locals ∧ (∀ w ∈ ws, ∀ (a' : Array Value) (U : State), s.WarmedH U.vm → w.before a' U = true) ∧ Cond.codeWith y bytes maxL ret hh ∈ ws) ∧
  (Cond.codeWith y bytes maxL ret hh).before args s = true ∧ (Cond.initialized y.cls).before args s = true ∧ (y.cls ≠ "java/lang/invoke/MethodHandle" ∧ y.cls ≠ "java/lang/invoke/VarHandle") ∧
  (∀ sig, parseMethodDescriptor y.desc = some sig → n = sig.parameters.length) ∧ (Cond.methodLink own index y).before args s = true ∧ (Cond.static y).before args s = true
theorem vx_cwSW {own : String} {index maxL mc ms : Nat} {y : MethodName} {bytes : ByteArray} {ret : Option FieldType} {hh : List (Nat × Nat × Nat × Nat)} {Ts ws ws' : List Cond} {rm : Room} (n : Nat) (ht : ∀ w ∈ Ts, w.before args s = true) (hT : GoodIn Ts (va_wsS own index y ws)) (hw : ws = Cond.codeWith y bytes maxL ret hh :: ws') (hrc : rm.cells = mc) (hrs : rm.slots = ms)
    (hd : y.cls ≠ "java/lang/invoke/MethodHandle" ∧ y.cls ≠ "java/lang/invoke/VarHandle" ∧ (parseMethodDescriptor y.desc).map (fun d => d.parameters.length) = some n) (hR : rm.frames + 1 ≤ R.frames ∧ 8 + (maxL + 11) + rm.locals ≤ R.locals) :
    vx_CSW R s args own index y bytes maxL ret hh ws rm mc ms n := by
  have ok : ∀ w ∈ va_wsS own index y ws, w.before args s = true := fun w h => ht w (hT w h).1
  have hG : GoodIn Ts ws := fun w h => hT w (by unfold va_wsS; exact List.mem_append_right _ h)
  have hc : Cond.codeWith y bytes maxL ret hh ∈ ws := by rw [hw]; exact List.mem_cons_self
  refine ⟨⟨hrc, hrs, hR.1, hR.2, pay_in ht hG, hc⟩, ht _ (hG _ hc).1, ok _ (by simp [va_wsS]), ⟨hd.1, hd.2.1⟩, fun sig h => ?_, ok _ (by simp [va_wsS]), ok _ (by simp [va_wsS])⟩
  have h2 := hd.2.2
  rw [h] at h2
  exact (Option.some.inj h2).symm
theorem vx_callSW (X : Stand p l e R s m args below meth c T locs cells slots) (hexec : p.tables.exec = Jvm.exec) {own : String} {index : Nat} {y : MethodName} {bytes : ByteArray} {maxL : Nat} {ret : Option FieldType} {hh : List (Nat × Nat × Nat × Nat)}
    (hown : s.vm.findClass own = some m.cls) (hlink : (Cond.methodLink own index y).before args s = true) (hstat : (Cond.static y).before args s = true) (hinit : (Cond.initialized y.cls).before args s = true)
    (hcode : (Cond.codeWith y bytes maxL ret hh).before args s = true) (hy : y.cls ≠ "java/lang/invoke/MethodHandle" ∧ y.cls ≠ "java/lang/invoke/VarHandle")
    {W9 : Nat} {Pre : Pt → Array Value → Prop} {Post : Pt → Array Value → Option Value → Pt → Prop} (hK : Back l R p e below s args y 3 W9 Pre Post)
    {g : JFrame} (hg : g.method = m) (hsize : g.locals.size = c.maxLocals) {argsL rest : List Value} (hlen : ∀ sig, parseMethodDescriptor y.desc = some sig → argsL.length = sig.parameters.length)
    (hstack : g.stack = argsL.reverse ++ rest) (hW : 2 * g.monitorRoom + (rest.map fun v => v.category).sum ≤ W9) (hdg : decode c.code g.pc = .ok (.invokestatic index, 3))
    (hpre : ∀ vm₁, s.WarmedH vm₁ → Pre ⟨T.setVm vm₁, locs, cells, slots⟩ argsL.toArray) :
    ∃ (v : Option Value) (vm₁ : Vm) (B : Pt), s.WarmedH vm₁ ∧ Stand p l e R s m args below meth c B.U B.locs B.cells B.slots ∧ Post ⟨T.setVm vm₁, locs, cells, slots⟩ argsL.toArray v B ∧
      ∀ target, Steps p.tables e below (B.U.setTop { g with pc := g.pc + 3, stack := v.toList ++ rest }) target → Steps p.tables e below (T.setTop g) target := by
  obtain ⟨mk, methM, cM, hnamed, hmethM, -, -, -, -, -, -, hsigM⟩ := Cond.codeWith_spec hcode
  have hstatic : methM.isStatic = true := Cond.static_spec hnamed hmethM hstat
  obtain ⟨kP, hkP, -⟩ := className_of_methodNamed hnamed
  have hinitP : kP.init = .initialized := Cond.initialized_spec (findClass_of_methodNamed hnamed) hkP hinit
  obtain ⟨vm₁, X₁, hstep₁⟩ := X.invokestatic hexec hown hlink hnamed hmethM hstatic hkP hinitP hy (g := g) hg (argsL := argsL) (rest := rest) (hlen _ hsigM) hstack hdg
  obtain ⟨v, B, X', hpost, hsteps⟩ := hK m meth c ⟨T.setVm vm₁, locs, cells, slots⟩ { g with stack := rest } (.invokestatic index) mk argsL.toArray X₁ hg hsize hdg hW (X₁.named hnamed) (hpre vm₁ X₁.warmed)
  exact ⟨v, vm₁, B, X₁.warmed, X', hpost, fun target h => hstep₁ _ fun acts => by rw [doInvoke_state]; exact hsteps.trans h⟩
theorem vx_runSW {y : MethodName} {bytes cc : ByteArray} {maxL nL mc ms n index : Nat} {ret : Option FieldType} {hh : List (Nat × Nat × Nat × Nat)} {ws : List Cond} {rm : Room} {Pc : Array Value → State → Prop} {Qc : Array Value → State → Outcome → State → Prop} {free : Addr → Prop} {Ts : List Cond} {own : String} {As rest : List Value} {g : JFrame}
    (S : CallFix p m c cc nL s args Ts own) (hM : Met l y ws rm Pc Qc mc ms free) (cw : vx_CSW R s args own index y bytes maxL ret hh ws rm mc ms n) (hp : PreS s H Pc As)
    (hg : g.method = m) (hn : As.length = n) (hsize : g.locals.size = nL) (hstack : g.stack = As.reverse ++ rest) (hW : 2 * g.monitorRoom + (rest.map fun v => v.category).sum ≤ 8) (hdg : decode cc g.pc = .ok (.invokestatic index, 3)) (hf : cells + mc ≤ R.cells ∧ slots + ms ≤ R.slots) :
    va_Run p l e R s m args below meth c H locs cells slots mc ms g rest (Qc As.toArray) (free) := by
  obtain ⟨⟨hrc, hrs, hfr, hlo, hws, hcw⟩, hcode, hini, hy, hlen, hl, hstt⟩ := cw
  have hK : Back l R p e below s args y 3 8 (PreOf R mc ms Pc) (PostOf Qc mc ms free) := va_backW (hh := hh) (bytes := bytes) (maxL := maxL) (ret := ret) hM hp.1 hrc hrs hfr hlo hws hcw (fun a' U hW => word_at hW (Or.inl (by first | rfl | simp [Cond.onTables, Cond.keeps, Cond.steady])) hini)
  obtain ⟨hx, hb, hml, ho, -⟩ := S
  intro T hT X
  obtain ⟨v, vm₁, ⟨U', l2, c2, s2⟩, hW₁, X', ⟨g', mk, t, L, e1, e2, hq, h1, hL, h2, h3⟩, st⟩ := vx_callSW X hx (hh := hh) (bytes := bytes) (maxL := maxL) (ret := ret) ho hl hstt hini hcode hy hK hg (hsize.trans hml.symm) (argsL := As) (rest := rest) (fun sig h => hn.trans (hlen sig h)) hstack hW (by rw [hb]; exact hdg)
    (fun vm₁ hW₁ => ⟨hf.1, hf.2, hp.2 (T.setVm vm₁) hT hW₁⟩)
  dsimp only [Pt.U, Pt.locs, Pt.cells, Pt.slots] at X' e1 e2 h1 h2 h3 st
  subst h1; subst h2; subst h3
  exact ⟨v, (T.setVm vm₁).calling g' mk As.toArray, t, U', L, hT, X', hL, e1, e2, hq, st⟩
/-- not caught here, past rows that name other classes: it goes on to the caller -/
theorem vx_outP {p : Program} {l : Launch} {e : Env} {R : Room} {s : State} {m : MethodId} {args : Array Value} {below : List Frame} {meth : Method} {c : Code} {H : Heap} {locs : List Loc} {cells slots : Nat} {free : Addr → Prop} {ls : Array Slot} {rest : List Value} {Qc : Array Value → State → Outcome → State → Prop} {XC : String → State → State → Prop}
    {pc : Nat} {own E : String} {ce : Cell} {q : Addr} {mc ms : Nat} (hown : s.vm.findClass own = some m.cls) (hlocks : meth.locks = false)
    (hpass : ∀ z ∈ c.exceptionTable.toList, covers z pc = false ∨ (z.catchType ≠ 0 ∧ ∃ nm : String, (Cond.classLink own z.catchType nm).before args s = true ∧ va_Nc E nm s)) (hcell : H[q]? = some ce) (hv : ce.vm = .none) (hcl : s.vm.findClass E = some ce.cls)
    (hx : ∀ t : State, t.heap = H → s.vm.Alike t.vm → XC E s t) (hf : ∀ z ∈ locs, free z.base) (hc : cells ≤ mc) (hs : slots ≤ ms) :
    vx_W p l e R s m args below meth c H locs cells slots (vx_MQ below Qc XC args s mc ms free) (F0 m pc ls rest) q := by
  intro T hT X
  have hpl : e.platform.magicAccessors = ({} : Platform).magicAccessors := by rw [X.admits.platform]
  obtain ⟨vm', hW', X', st⟩ := X.outThrough hlocks q (g := F0 m pc ls rest) rfl rfl rfl (cell := ce) (by rw [hT]; exact hcell) (by rw [hv]; rfl)
    (by obtain ⟨k9, h9, -⟩ := Vm.findClass_spec hcl; exact ⟨k9, h9⟩) (fun z hz => by
      rcases hpass z hz with h | ⟨hz0, nm, hl1, hn1⟩
      · exact Or.inl h
      · obtain ⟨c6, hc6, hcl6⟩ := Cond.classLink_spec hown hl1 e.platform hpl
        obtain ⟨a8, b8, h1, h2, h3⟩ := hn1
        cases Option.some.inj (h1.symm.trans hcl)
        cases Option.some.inj (h2.symm.trans hc6)
        exact Or.inr ⟨hz0, _, hcl6, h3⟩)
  obtain ⟨g₀, hfr⟩ := X'.frames_eq
  have hcell9 : ((T.setVm vm').setFrames (.throwing q :: below)).heap[q]? = some ce := by
    show T.heap[q]? = some ce
    rw [hT]; exact hcell
  have hend : Ended ((T.setVm vm').setFrames (.throwing q :: below)) below (.threw q) := State.frames_setFrames _ (State.cur_lt_of_frames hfr)
  refine ⟨(T.setVm vm').setFrames (.throwing q :: below), ?_, .threw q, X'.here.running, hend, Or.inr ⟨q, rfl, E, ce, locs, hx _ hT (X'.ends _).1.alike, hcell9, hv, hcl, (X'.ends _).1, (X'.ends _).2.mono hc hs, hf⟩⟩
  rw [X.pushThrowing_eq]
  exact st
/-- a thing of a world lies in the heap -/
theorem vx_lt {D : va_G} {cl : List vw_C} {ws : va_W} {H1 : Heap} (h : va_P D cl ws H1) {k : Nat} {q : Nat × va_E} (hk : ws[k]? = some q) : q.1 < H1.size := (h k q hk).lt
end VXS
/-! ===== END ===== -/
/-! ===== BEGIN methods with a table of their own: called by a name, returning or throwing ===== -/
section VXH
/-! vx_backW, vx_callVX, vx_callSX, vx_callVW, vx_runVW, vx_runVX, vx_runSX, vx_ofWH follow the same proofs as their sisters above (Free/Laws.lean, Shelf42/LK1.lean); vx_outP calls Shelf42/NT130.lean (outThrough). -/
section
variable {l : Launch} {R : Room} {p : Program} {e : Env} {below : List Frame} {s : State} {sargs : Array Value} {y : MethodName} {len W9 : Nat}
theorem vx_backW {ws : List Cond} {rm : Room} {Pc : Array Value → State → Prop} {Qc : Array Value → State → Outcome → State → Prop} {XC : String → State → State → Prop} {mc ms : Nat} {free : Addr → Prop} {bytes : ByteArray} {maxL : Nat} {ret : Option FieldType} {hh : List (Nat × Nat × Nat × Nat)}
    (hM : vx_Met l y ws rm Pc Qc XC mc ms free) (hblind : FrameBlind Pc) (hrc : rm.cells = mc) (hrs : rm.slots = ms)
    (hframes : rm.frames + 1 ≤ R.frames) (hlocals : W9 + (maxL + 11) + rm.locals ≤ R.locals)
    (hws : ∀ w ∈ ws, ∀ a' U, s.WarmedH U.vm → w.before a' U = true) (hcode : Cond.codeWith y bytes maxL ret hh ∈ ws) (hinit : ∀ a' U, s.WarmedH U.vm → (Cond.initialized y.cls).before a' U = true) :
    vx_Back l R p e below s sargs y len W9 (PreOf R mc ms Pc) (PostOf Qc mc ms free) (vx_Post XC mc ms free) := by
  intro m meth c A g ig mk a X hg hsize hdg hW hn hp
  have h1 : (headSpec ws rm).pre.before a A.U = true := atoms_intro fun w hw => hws w hw _ _ X.warmed
  have h2 : (Cond.codeWith y bytes maxL ret hh).before a A.U = true := hws _ hcode _ _ X.warmed
  have h3 : (Cond.initialized y.cls).before a A.U = true := hinit _ _ X.warmed
  have h4 : A.cells + (headSpec ws rm).room.cells ≤ R.cells := by rw [show (headSpec ws rm).room.cells = mc from hrc]; exact hp.1
  have h5 : A.slots + (headSpec ws rm).room.slots ≤ R.slots := by rw [show (headSpec ws rm).room.slots = ms from hrs]; exact hp.2.1
  have hPc : Pc a (A.U.calling g mk a) := hblind _ _ _ _ hp.2.2
  obtain ⟨U, Ls, c0, s0⟩ := A
  dsimp only [Pt.U, Pt.locs, Pt.cells, Pt.slots] at h1 h2 h3 h4 h5 X hn hPc ⊢
  obtain ⟨m9, methY, cY, hn9, hmY, hcY, -, hlY, -⟩ := Cond.codeWith_spec h2
  cases Option.some.inj (hn9.symm.trans hn)
  obtain ⟨kY, hkY, -⟩ := className_of_methodNamed hn
  have hinitY : kY.init = .initialized := Cond.initialized_spec (findClass_of_methodNamed hn) hkY h3
  have h : At U g.method c below := by rw [hg]; exact X.here
  have hlocals9 : W9 + (maxL + 11) + (headSpec ws rm).room.locals ≤ R.locals := hlocals
  have happ : (headSpec ws rm).appliesLoose y e.platform (U.calling g mk a) = true :=
    Spec.appliesLoose_calling (g := g) h hdg hn hkY hinitY
      (X.room_calling (g := g) (R' := (headSpec ws rm).room) hsize hmY hcY hframes (by rw [hlY]; omega) h4 h5) h1
  obtain ⟨mid, hmid⟩ := h.above
  have hfr : (U.setTop g).frames = (.java g :: mid) ++ below := by rw [State.frames_setTop' g h.top, hmid]; rfl
  obtain ⟨o, s₂, hsteps, -, hend, hq⟩ := Steps.callFree hM p X.admits X.cas X.clock (acts := []) hfr happ hPc trivial
  have hq' : vx_Q Qc XC mc ms free a (U.calling g mk a) o s₂ := hq
  rw [State.frames_setTop' g h.top] at hend
  obtain ⟨g₀, hg0⟩ := Option.isSome_iff_exists.mp h.top
  obtain ⟨r, hr⟩ := State.topJava?_eq_some.mp hg0
  have hr' : (({ U with heap := s₂.heap, slotsUsed := s₂.slotsUsed } : State).setVm s₂.vm).frames = .java g₀ :: r := hr
  rcases hq' with ⟨hqc, L, hfe, hL⟩ | ⟨q, rfl, E, ce, L, hx, hce, hcv, hcl, hW₂, hsm, hL⟩
  · obtain ⟨⟨v, rfl⟩, hW₂, e2, q2, q3, q4, q5, q6⟩ := id hfe
    have e3 : s₂ = ({ (U.calling g mk a).setFrames s₂.frames with heap := s₂.heap, slotsUsed := s₂.slotsUsed } : State).setVm s₂.vm := by
      have : s₂ = ({ s₂ with vm := (U.calling g mk a).vm } : State).setVm s₂.vm := rfl
      rw [e2] at this
      exact this
    obtain ⟨c₂, i₂, len₂, hc₂, hd₂, hf₂⟩ := hend
    have hW' : U.WarmedH s₂.vm := hW₂
    have hcc : c₂ = c := by
      have h1 : s₂.code? g.method = U.code? g.method := by
        rw [State.code?_eq, State.code?_eq, hW'.alike.method?]
      exact Option.some.inj (hc₂.symm.trans (h1.trans h.code))
    subst hcc
    have hlen : len₂ = len := by rw [hdg] at hd₂; cases hd₂; rfl
    subst hlen
    have hs₂ : s₂ = (({ U with heap := s₂.heap, slotsUsed := s₂.slotsUsed } : State).setVm s₂.vm).setTop { g with pc := g.pc + len₂, stack := v.toList ++ g.stack } := by
      refine e3.trans ?_
      rw [hf₂, State.calling_eq h.top, State.setFrames_setFrames, State.setTop_of_frames _ hr', hr]
      rfl
    have hsame : U.sameButNew ({ U with heap := s₂.heap, slotsUsed := s₂.slotsUsed } : State) L mc ms := by
      refine ⟨?_, q2, q3, q4, q5, q6⟩
      obtain ⟨t, ht, -⟩ := State.frames_cons hr
      show ({ U with heap := s₂.heap, slotsUsed := s₂.slotsUsed } : State) = { U.setFrames U.frames with heap := s₂.heap, slotsUsed := s₂.slotsUsed }
      rw [State.setFrames_self ht]
    subst hg
    refine Or.inl ⟨v, ⟨(({ U with heap := s₂.heap, slotsUsed := s₂.slotsUsed } : State).setVm s₂.vm), Ls ++ L, c0 + mc, s0 + ms⟩,
      ⟨X.admits, X.cas, X.clock, X.frames, X.room, X.hears, X.method, X.code, (X.here.setHeapUsed s₂.heap s₂.slotsUsed).setVm hW'.alike, X.tail, State.WarmedH.trans X.warmed hW', X.limits, X.bytes, X.same.trans (hsame.setVm s.vm)⟩,
      ⟨g, mk, s₂, L, rfl, rfl, hqc, rfl, hL, rfl, rfl⟩, ?_⟩
    show Steps p.tables e below _ ((({ U with heap := s₂.heap, slotsUsed := s₂.slotsUsed } : State).setVm s₂.vm).setTop { g with pc := g.pc + len₂, stack := v.toList ++ g.stack })
    rw [← hs₂]
    exact hsteps
  · obtain ⟨e2, q2, q3, q4, q5, q6⟩ := id hsm
    have e3 : s₂ = ({ (U.calling g mk a).setFrames s₂.frames with heap := s₂.heap, slotsUsed := s₂.slotsUsed } : State).setVm s₂.vm := by
      have : s₂ = ({ s₂ with vm := (U.calling g mk a).vm } : State).setVm s₂.vm := rfl
      rw [e2] at this
      exact this
    have hf₂ : s₂.frames = .throwing q :: .java g :: U.frames.tail := hend
    have hW' : U.WarmedH s₂.vm := hW₂
    have hs₂ : s₂ = ((({ U with heap := s₂.heap, slotsUsed := s₂.slotsUsed } : State).setVm s₂.vm).setTop g).pushFrame (.throwing q) := by
      refine e3.trans ?_
      rw [hf₂, State.calling_eq h.top, State.setFrames_setFrames, State.pushFrame, State.frames_setTop _ hr', State.setTop_of_frames _ hr', State.setFrames_setFrames, hr]
      rfl
    have hsame : U.sameButNew ({ U with heap := s₂.heap, slotsUsed := s₂.slotsUsed } : State) L mc ms := by
      refine ⟨?_, q2, q3, q4, q5, q6⟩
      obtain ⟨t, ht, -⟩ := State.frames_cons hr
      show ({ U with heap := s₂.heap, slotsUsed := s₂.slotsUsed } : State) = { U.setFrames U.frames with heap := s₂.heap, slotsUsed := s₂.slotsUsed }
      rw [State.setFrames_self ht]
    subst hg
    refine Or.inr ⟨q, ⟨(({ U with heap := s₂.heap, slotsUsed := s₂.slotsUsed } : State).setVm s₂.vm), Ls ++ L, c0 + mc, s0 + ms⟩,
      ⟨X.admits, X.cas, X.clock, X.frames, X.room, X.hears, X.method, X.code, (X.here.setHeapUsed s₂.heap s₂.slotsUsed).setVm hW'.alike, X.tail, State.WarmedH.trans X.warmed hW', X.limits, X.bytes, X.same.trans (hsame.setVm s.vm)⟩,
      ⟨g, mk, s₂, L, E, ce, rfl, rfl, hx, hce, hcv, hcl, rfl, hL, rfl, rfl⟩, ?_⟩
    show Steps p.tables e below _ (((({ U with heap := s₂.heap, slotsUsed := s₂.slotsUsed } : State).setVm s₂.vm).setTop g).pushFrame (.throwing q))
    rw [← hs₂]
    exact hsteps
end
variable {p : Program} {l : Launch} {e : Env} {R : Room} {s : State} {m : MethodId} {args : Array Value} {below : List Frame} {meth : Method} {c : Code} {T : State} {H : Heap} {locs : List Loc} {cells slots : Nat}
theorem vx_callVX (X : Stand p l e R s m args below meth c T locs cells slots) (hexec : p.tables.exec = Jvm.exec) {own C : String} {index : Nat} {y : MethodName} {bytes : ByteArray} {maxL : Nat} {ret : Option FieldType} {hh : List (Nat × Nat × Nat × Nat)}
    (hown : s.vm.findClass own = some m.cls) (hlink : (Cond.methodLink own index y).before args s = true) (hinst : (Cond.instanceMethod y).before args s = true) (hsel : (Cond.selects C y y).before args s = true)
    (hcode : (Cond.codeWith y bytes maxL ret hh).before args s = true) (hy : y.cls ≠ "java/lang/invoke/MethodHandle" ∧ y.cls ≠ "java/lang/invoke/VarHandle")
    {W9 : Nat} {Pre : Pt → Array Value → Prop} {Post : Pt → Array Value → Option Value → Pt → Prop} {PostX : Pt → Array Value → Addr → Pt → Prop} (hK : vx_Back l R p e below s args y 3 W9 Pre Post PostX)
    {b : Addr} {cellB : Cell} (hcell : T.heap[b]? = some cellB) (hobj : cellB.vm.isStatics = false) (hcls : s.vm.findClass C = some cellB.cls)
    {g : JFrame} (hg : g.method = m) (hsize : g.locals.size = c.maxLocals) {argsL rest : List Value} (hlen : ∀ sig, parseMethodDescriptor y.desc = some sig → argsL.length = sig.parameters.length)
    (hstack : g.stack = argsL.reverse ++ .ref b :: rest) (hW : 2 * g.monitorRoom + (rest.map fun v => v.category).sum ≤ W9) (hdg : decode c.code g.pc = .ok (.invokevirtual index, 3))
    (hpre : ∀ vm₁, s.WarmedH vm₁ → Pre ⟨T.setVm vm₁, locs, cells, slots⟩ (Value.ref b :: argsL).toArray) :
    (∃ (v : Option Value) (vm₁ : Vm) (B : Pt), s.WarmedH vm₁ ∧ Stand p l e R s m args below meth c B.U B.locs B.cells B.slots ∧ Post ⟨T.setVm vm₁, locs, cells, slots⟩ (Value.ref b :: argsL).toArray v B ∧
      ∀ target, Steps p.tables e below (B.U.setTop { g with pc := g.pc + 3, stack := v.toList ++ rest }) target → Steps p.tables e below (T.setTop g) target) ∨
    (∃ (q : Addr) (vm₁ : Vm) (B : Pt), s.WarmedH vm₁ ∧ Stand p l e R s m args below meth c B.U B.locs B.cells B.slots ∧ PostX ⟨T.setVm vm₁, locs, cells, slots⟩ (Value.ref b :: argsL).toArray q B ∧
      Steps p.tables e below (T.setTop g) ((B.U.setTop { g with stack := rest }).pushFrame (.throwing q))) := by
  obtain ⟨mk, methM, hnamed, hmethM, hstM, habM⟩ := Cond.instanceMethod_spec hinst
  obtain ⟨m8, methM', cM, hn8, hmethM', -, -, -, -, -, -, hsigM⟩ := Cond.codeWith_spec hcode
  cases Option.some.inj (hn8.symm.trans hnamed)
  cases hmethM.symm.trans hmethM'
  obtain ⟨c2, r2, m2, q1, q2, q3, q4, kP, hkP, hkPi⟩ := Cond.selects_spec hsel
  cases hcls.symm.trans q1
  cases (State.methodFound?_of_named hnamed hy).symm.trans q2
  cases hnamed.symm.trans q3
  have hselP : selectMethod e.platform s.vm cellB.cls mk = .method mk := by rw [Launch.admits_selectMethod X.admits]; exact q4
  obtain ⟨vm₁, X₁, hstep₁⟩ := X.invokevirtual hexec hown hlink hnamed hmethM hstM hkP hkPi hy (a := b) (cell := cellB) hcell
    (fun z h => by rw [h] at hobj; cases hobj) hselP hmethM habM hkP hkPi (g := g) hg (argsL := argsL) (rest := rest) (hlen _ hsigM) hstack hdg
  rcases hK m meth c ⟨T.setVm vm₁, locs, cells, slots⟩ { g with stack := rest } (.invokevirtual index) mk (Value.ref b :: argsL).toArray X₁ hg hsize hdg hW (X₁.named hnamed) (hpre vm₁ X₁.warmed) with ⟨v, B, X', hpost, hsteps⟩ | ⟨q, B, X', hpost, hsteps⟩
  · exact Or.inl ⟨v, vm₁, B, X₁.warmed, X', hpost, fun target h => hstep₁ _ fun acts => by rw [doInvoke_state]; exact hsteps.trans h⟩
  · exact Or.inr ⟨q, vm₁, B, X₁.warmed, X', hpost, hstep₁ _ fun acts => by rw [doInvoke_state]; exact hsteps⟩
theorem vx_callSX (X : Stand p l e R s m args below meth c T locs cells slots) (hexec : p.tables.exec = Jvm.exec) {own : String} {index : Nat} {y : MethodName} {bytes : ByteArray} {maxL : Nat} {ret : Option FieldType} {hh : List (Nat × Nat × Nat × Nat)}
    (hown : s.vm.findClass own = some m.cls) (hlink : (Cond.methodLink own index y).before args s = true) (hstat : (Cond.static y).before args s = true) (hinit : (Cond.initialized y.cls).before args s = true)
    (hcode : (Cond.codeWith y bytes maxL ret hh).before args s = true) (hy : y.cls ≠ "java/lang/invoke/MethodHandle" ∧ y.cls ≠ "java/lang/invoke/VarHandle")
    {W9 : Nat} {Pre : Pt → Array Value → Prop} {Post : Pt → Array Value → Option Value → Pt → Prop} {PostX : Pt → Array Value → Addr → Pt → Prop} (hK : vx_Back l R p e below s args y 3 W9 Pre Post PostX)
    {g : JFrame} (hg : g.method = m) (hsize : g.locals.size = c.maxLocals) {argsL rest : List Value} (hlen : ∀ sig, parseMethodDescriptor y.desc = some sig → argsL.length = sig.parameters.length)
    (hstack : g.stack = argsL.reverse ++ rest) (hW : 2 * g.monitorRoom + (rest.map fun v => v.category).sum ≤ W9) (hdg : decode c.code g.pc = .ok (.invokestatic index, 3))
    (hpre : ∀ vm₁, s.WarmedH vm₁ → Pre ⟨T.setVm vm₁, locs, cells, slots⟩ argsL.toArray) :
    (∃ (v : Option Value) (vm₁ : Vm) (B : Pt), s.WarmedH vm₁ ∧ Stand p l e R s m args below meth c B.U B.locs B.cells B.slots ∧ Post ⟨T.setVm vm₁, locs, cells, slots⟩ argsL.toArray v B ∧
      ∀ target, Steps p.tables e below (B.U.setTop { g with pc := g.pc + 3, stack := v.toList ++ rest }) target → Steps p.tables e below (T.setTop g) target) ∨
    (∃ (q : Addr) (vm₁ : Vm) (B : Pt), s.WarmedH vm₁ ∧ Stand p l e R s m args below meth c B.U B.locs B.cells B.slots ∧ PostX ⟨T.setVm vm₁, locs, cells, slots⟩ argsL.toArray q B ∧
      Steps p.tables e below (T.setTop g) ((B.U.setTop { g with stack := rest }).pushFrame (.throwing q))) := by
  obtain ⟨mk, methM, cM, hnamed, hmethM, -, -, -, -, -, -, hsigM⟩ := Cond.codeWith_spec hcode
  have hstatic : methM.isStatic = true := Cond.static_spec hnamed hmethM hstat
  obtain ⟨kP, hkP, -⟩ := className_of_methodNamed hnamed
  have hinitP : kP.init = .initialized := Cond.initialized_spec (findClass_of_methodNamed hnamed) hkP hinit
  obtain ⟨vm₁, X₁, hstep₁⟩ := X.invokestatic hexec hown hlink hnamed hmethM hstatic hkP hinitP hy (g := g) hg (argsL := argsL) (rest := rest) (hlen _ hsigM) hstack hdg
  rcases hK m meth c ⟨T.setVm vm₁, locs, cells, slots⟩ { g with stack := rest } (.invokestatic index) mk argsL.toArray X₁ hg hsize hdg hW (X₁.named hnamed) (hpre vm₁ X₁.warmed) with ⟨v, B, X', hpost, hsteps⟩ | ⟨q, B, X', hpost, hsteps⟩
  · exact Or.inl ⟨v, vm₁, B, X₁.warmed, X', hpost, fun target h => hstep₁ _ fun acts => by rw [doInvoke_state]; exact hsteps.trans h⟩
  · exact Or.inr ⟨q, vm₁, B, X₁.warmed, X', hpost, hstep₁ _ fun acts => by rw [doInvoke_state]; exact hsteps⟩
theorem vx_callVW (X : Stand p l e R s m args below meth c T locs cells slots) (hexec : p.tables.exec = Jvm.exec) {own C : String} {index : Nat} {y : MethodName} {bytes : ByteArray} {maxL : Nat} {ret : Option FieldType} {hh : List (Nat × Nat × Nat × Nat)}
    (hown : s.vm.findClass own = some m.cls) (hlink : (Cond.methodLink own index y).before args s = true) (hinst : (Cond.instanceMethod y).before args s = true) (hsel : (Cond.selects C y y).before args s = true)
    (hcode : (Cond.codeWith y bytes maxL ret hh).before args s = true) (hy : y.cls ≠ "java/lang/invoke/MethodHandle" ∧ y.cls ≠ "java/lang/invoke/VarHandle")
    {W9 : Nat} {Pre : Pt → Array Value → Prop} {Post : Pt → Array Value → Option Value → Pt → Prop} (hK : Back l R p e below s args y 3 W9 Pre Post)
    {b : Addr} {cellB : Cell} (hcell : T.heap[b]? = some cellB) (hobj : cellB.vm.isStatics = false) (hcls : s.vm.findClass C = some cellB.cls)
    {g : JFrame} (hg : g.method = m) (hsize : g.locals.size = c.maxLocals) {argsL rest : List Value} (hlen : ∀ sig, parseMethodDescriptor y.desc = some sig → argsL.length = sig.parameters.length)
    (hstack : g.stack = argsL.reverse ++ .ref b :: rest) (hW : 2 * g.monitorRoom + (rest.map fun v => v.category).sum ≤ W9) (hdg : decode c.code g.pc = .ok (.invokevirtual index, 3))
    (hpre : ∀ vm₁, s.WarmedH vm₁ → Pre ⟨T.setVm vm₁, locs, cells, slots⟩ (Value.ref b :: argsL).toArray) :
    ∃ (v : Option Value) (vm₁ : Vm) (B : Pt), s.WarmedH vm₁ ∧ Stand p l e R s m args below meth c B.U B.locs B.cells B.slots ∧ Post ⟨T.setVm vm₁, locs, cells, slots⟩ (Value.ref b :: argsL).toArray v B ∧
      ∀ target, Steps p.tables e below (B.U.setTop { g with pc := g.pc + 3, stack := v.toList ++ rest }) target → Steps p.tables e below (T.setTop g) target := by
  obtain ⟨mk, methM, hnamed, hmethM, hstM, habM⟩ := Cond.instanceMethod_spec hinst
  obtain ⟨m8, methM', cM, hn8, hmethM', -, -, -, -, -, -, hsigM⟩ := Cond.codeWith_spec hcode
  cases Option.some.inj (hn8.symm.trans hnamed)
  cases hmethM.symm.trans hmethM'
  obtain ⟨c2, r2, m2, q1, q2, q3, q4, kP, hkP, hkPi⟩ := Cond.selects_spec hsel
  cases hcls.symm.trans q1
  cases (State.methodFound?_of_named hnamed hy).symm.trans q2
  cases hnamed.symm.trans q3
  have hselP : selectMethod e.platform s.vm cellB.cls mk = .method mk := by rw [Launch.admits_selectMethod X.admits]; exact q4
  obtain ⟨vm₁, X₁, hstep₁⟩ := X.invokevirtual hexec hown hlink hnamed hmethM hstM hkP hkPi hy (a := b) (cell := cellB) hcell
    (fun z h => by rw [h] at hobj; cases hobj) hselP hmethM habM hkP hkPi (g := g) hg (argsL := argsL) (rest := rest) (hlen _ hsigM) hstack hdg
  obtain ⟨v, B, X', hpost, hsteps⟩ := hK m meth c ⟨T.setVm vm₁, locs, cells, slots⟩ { g with stack := rest } (.invokevirtual index) mk (Value.ref b :: argsL).toArray X₁ hg hsize hdg hW (X₁.named hnamed) (hpre vm₁ X₁.warmed)
  exact ⟨v, vm₁, B, X₁.warmed, X', hpost, fun target h => hstep₁ _ fun acts => by rw [doInvoke_state]; exact hsteps.trans h⟩
abbrev vx_CVW (R : Room) (s : State) (args : Array Value) (own C : String) (index : Nat) (y : MethodName) (bytes : ByteArray) (maxL : Nat) (ret : Option FieldType) (hh : List (Nat × Nat × Nat × Nat)) (ws : List Cond) (rm : Room) (mc ms n : Nat) : Prop :=
  (rm.cells = mc ∧ rm.slots = ms ∧ rm.frames + 1 ≤ R.frames ∧ 8 + (maxL + 11) + rm.locals ≤ R.locals ∧ (∀ w ∈ ws, ∀ (a' : Array Value) (U : State), s.WarmedH U.vm → w.before a' U = true) ∧ Cond.codeWith y bytes maxL ret hh ∈ ws) ∧
  (Cond.codeWith y bytes maxL ret hh).before args s = true ∧ (Cond.initialized y.cls).before args s = true ∧ (y.cls ≠ "java/lang/invoke/MethodHandle" ∧ y.cls ≠ "java/lang/invoke/VarHandle") ∧
  (∀ sig, parseMethodDescriptor y.desc = some sig → n = sig.parameters.length) ∧ (Cond.methodLink own index y).before args s = true ∧ (Cond.instanceMethod y).before args s = true ∧ (Cond.selects C y y).before args s = true
theorem vx_cwVW {own C : String} {index maxL mc ms : Nat} {y : MethodName} {bytes : ByteArray} {ret : Option FieldType} {hh : List (Nat × Nat × Nat × Nat)} {Ts ws ws' : List Cond} {rm : Room} (n : Nat) (ht : ∀ w ∈ Ts, w.before args s = true) (hT : GoodIn Ts (wsV own index C y ws)) (hw : ws = Cond.codeWith y bytes maxL ret hh :: ws') (hrc : rm.cells = mc) (hrs : rm.slots = ms)
    (hd : y.cls = C ∧ y.cls ≠ "java/lang/invoke/MethodHandle" ∧ y.cls ≠ "java/lang/invoke/VarHandle" ∧ (parseMethodDescriptor y.desc).map (fun d => d.parameters.length) = some n) (hR : rm.frames + 1 ≤ R.frames ∧ 8 + (maxL + 11) + rm.locals ≤ R.locals) :
    vx_CVW R s args own C index y bytes maxL ret hh ws rm mc ms n := by
  obtain ⟨hC, hd⟩ := hd
  subst hC
  have ok : ∀ w ∈ wsV own index y.cls y ws, w.before args s = true := fun w h => ht w (hT w h).1
  have hG : GoodIn Ts ws := fun w h => hT w (by unfold wsV; exact List.mem_append_right _ h)
  have hc : Cond.codeWith y bytes maxL ret hh ∈ ws := by rw [hw]; exact List.mem_cons_self
  refine ⟨⟨hrc, hrs, hR.1, hR.2, pay_in ht hG, hc⟩, ht _ (hG _ hc).1, ok _ (by simp [wsV]), ⟨hd.1, hd.2.1⟩, fun sig h => ?_, ok _ (by simp [wsV]), ok _ (by simp [wsV]), ok _ (by simp [wsV])⟩
  have h2 := hd.2.2
  rw [h] at h2
  exact (Option.some.inj h2).symm
theorem vx_runVW {y : MethodName} {bytes cc : ByteArray} {maxL nL mc ms n index : Nat} {ret : Option FieldType} {hh : List (Nat × Nat × Nat × Nat)} {ws : List Cond} {rm : Room} {Pc : Array Value → State → Prop} {Qc : Array Value → State → Outcome → State → Prop} {free : Addr → Prop} {Ts : List Cond} {own C : String} {b : Addr} {As rest : List Value} {g : JFrame}
    (S : CallFix p m c cc nL s args Ts own) (hM : Met l y ws rm Pc Qc mc ms free) (cw : vx_CVW R s args own C index y bytes maxL ret hh ws rm mc ms n) (hp : PreV s H C b Pc As)
    (hg : g.method = m) (hn : As.length = n) (hsize : g.locals.size = nL) (hstack : g.stack = As.reverse ++ .ref b :: rest) (hW : 2 * g.monitorRoom + (rest.map fun v => v.category).sum ≤ 8) (hdg : decode cc g.pc = .ok (.invokevirtual index, 3)) (hf : cells + mc ≤ R.cells ∧ slots + ms ≤ R.slots) :
    va_Run p l e R s m args below meth c H locs cells slots mc ms g rest (Qc (Value.ref b :: As).toArray) free := by
  obtain ⟨⟨hrc, hrs, hfr, hlo, hws, hcw⟩, hcode, hini, hy, hlen, hl, hin, hse⟩ := cw
  have hK : Back l R p e below s args y 3 8 (PreOf R mc ms Pc) (PostOf Qc mc ms free) := va_backW (hh := hh) (bytes := bytes) (maxL := maxL) (ret := ret) hM hp.1 hrc hrs hfr hlo hws hcw (fun a' U hW => word_at hW (Or.inl (by first | rfl | simp [Cond.onTables, Cond.keeps, Cond.steady])) hini)
  obtain ⟨hx, hb, hml, ho, -⟩ := S
  obtain ⟨-, ⟨cellB, hcB, hoB, hclB⟩, hPc⟩ := hp
  intro T hT X
  obtain ⟨v, vm₁, ⟨U', l2, c2, s2⟩, hW₁, X', ⟨g', mk, t, L, e1, e2, hq, h1, hL, h2, h3⟩, st⟩ := vx_callVW X hx (C := C) (hh := hh) (bytes := bytes) (maxL := maxL) (ret := ret) ho hl hin hse hcode hy hK (by rw [hT]; exact hcB) hoB hclB hg (hsize.trans hml.symm) (argsL := As) (rest := rest) (fun sig h => hn.trans (hlen sig h)) hstack hW (by rw [hb]; exact hdg)
    (fun vm₁ hW₁ => ⟨hf.1, hf.2, hPc (T.setVm vm₁) hT hW₁⟩)
  dsimp only [Pt.U, Pt.locs, Pt.cells, Pt.slots] at X' e1 e2 h1 h2 h3 st
  subst h1; subst h2; subst h3
  exact ⟨v, (T.setVm vm₁).calling g' mk (Value.ref b :: As).toArray, t, U', L, hT, X', hL, e1, e2, hq, st⟩
section
variable {y : MethodName} {bytes cc : ByteArray} {maxL nL mc ms n index : Nat} {ret : Option FieldType} {ws : List Cond} {rm : Room} {Pc : Array Value → State → Prop} {Qc : Array Value → State → Outcome → State → Prop} {XC : String → State → State → Prop} {free : Addr → Prop} {Ts : List Cond} {own C : String} {b : Addr} {As rest : List Value} {g : JFrame}
theorem vx_runVX {hh : List (Nat × Nat × Nat × Nat)} (S : CallFix p m c cc nL s args Ts own) (hM : vx_Met l y ws rm Pc Qc XC mc ms free) (cw : vx_CVW R s args own C index y bytes maxL ret hh ws rm mc ms n) (hp : PreV s H C b Pc As)
    (hg : g.method = m) (hn : As.length = n) (hsize : g.locals.size = nL) (hstack : g.stack = As.reverse ++ .ref b :: rest) (hW : 2 * g.monitorRoom + (rest.map fun v => v.category).sum ≤ 8) (hdg : decode cc g.pc = .ok (.invokevirtual index, 3)) (hf : cells + mc ≤ R.cells ∧ slots + ms ≤ R.slots) :
    vx_Run p l e R s m args below meth c H locs cells slots mc ms g rest (Qc (Value.ref b :: As).toArray) XC free := by
  obtain ⟨⟨hrc, hrs, hfr, hlo, hws, hcw⟩, hcode, hini, hy, hlen, hl, hin, hse⟩ := cw
  have hK : vx_Back l R p e below s args y 3 8 (PreOf R mc ms Pc) (PostOf Qc mc ms free) (vx_Post XC mc ms free) := vx_backW (hh := hh) (bytes := bytes) (maxL := maxL) (ret := ret) hM hp.1 hrc hrs hfr hlo hws hcw (fun a' U hW => word_at hW (Or.inl (by first | rfl | simp [Cond.onTables, Cond.keeps, Cond.steady])) hini)
  obtain ⟨hx, hb, hml, ho, -⟩ := S
  obtain ⟨-, ⟨cellB, hcB, hoB, hclB⟩, hPc⟩ := hp
  intro T hT X
  rcases vx_callVX X hx (C := C) (hh := hh) (bytes := bytes) (maxL := maxL) (ret := ret) ho hl hin hse hcode hy hK (by rw [hT]; exact hcB) hoB hclB hg (hsize.trans hml.symm) (argsL := As) (rest := rest) (fun sig h => hn.trans (hlen sig h)) hstack hW (by rw [hb]; exact hdg)
    (fun vm₁ hW₁ => ⟨hf.1, hf.2, hPc (T.setVm vm₁) hT hW₁⟩) with ⟨v, vm₁, ⟨U', l2, c2, s2⟩, hW₁, X', ⟨g', mk, t, L, e1, e2, hq, h1, hL, h2, h3⟩, st⟩ | ⟨q, vm₁, ⟨U', l2, c2, s2⟩, hW₁, X', ⟨g', mk, t, L, E, ce, e1, e2, hq, hce, hcv, hcl, h1, hL, h2, h3⟩, st⟩
  · dsimp only [Pt.U, Pt.locs, Pt.cells, Pt.slots] at X' e1 e2 h1 h2 h3 st
    subst h1; subst h2; subst h3
    exact Or.inl ⟨v, (T.setVm vm₁).calling g' mk (Value.ref b :: As).toArray, t, U', L, hT, X', hL, e1, e2, hq, st⟩
  · dsimp only [Pt.U, Pt.locs, Pt.cells, Pt.slots] at X' e1 e2 h1 h2 h3 st hcl
    subst h1; subst h2; subst h3
    exact Or.inr ⟨q, (T.setVm vm₁).calling g' mk (Value.ref b :: As).toArray, t, U', L, E, ce, hT, X', hL, e1, e2, hq, hce, hcv, vx_cls hW₁ hcl, st⟩
theorem vx_runSX {hh : List (Nat × Nat × Nat × Nat)} (S : CallFix p m c cc nL s args Ts own) (hM : vx_Met l y ws rm Pc Qc XC mc ms free) (cw : vx_CSW R s args own index y bytes maxL ret hh ws rm mc ms n) (hp : PreS s H Pc As)
    (hg : g.method = m) (hn : As.length = n) (hsize : g.locals.size = nL) (hstack : g.stack = As.reverse ++ rest) (hW : 2 * g.monitorRoom + (rest.map fun v => v.category).sum ≤ 8) (hdg : decode cc g.pc = .ok (.invokestatic index, 3)) (hf : cells + mc ≤ R.cells ∧ slots + ms ≤ R.slots) :
    vx_Run p l e R s m args below meth c H locs cells slots mc ms g rest (Qc As.toArray) XC free := by
  obtain ⟨⟨hrc, hrs, hfr, hlo, hws, hcw⟩, hcode, hini, hy, hlen, hl, hstt⟩ := cw
  have hK : vx_Back l R p e below s args y 3 8 (PreOf R mc ms Pc) (PostOf Qc mc ms free) (vx_Post XC mc ms free) := vx_backW (hh := hh) (bytes := bytes) (maxL := maxL) (ret := ret) hM hp.1 hrc hrs hfr hlo hws hcw (fun a' U hW => word_at hW (Or.inl (by first | rfl | simp [Cond.onTables, Cond.keeps, Cond.steady])) hini)
  obtain ⟨hx, hb, hml, ho, -⟩ := S
  intro T hT X
  rcases vx_callSX X hx (hh := hh) (bytes := bytes) (maxL := maxL) (ret := ret) ho hl hstt hini hcode hy hK hg (hsize.trans hml.symm) (argsL := As) (rest := rest) (fun sig h => hn.trans (hlen sig h)) hstack hW (by rw [hb]; exact hdg)
    (fun vm₁ hW₁ => ⟨hf.1, hf.2, hp.2 (T.setVm vm₁) hT hW₁⟩) with ⟨v, vm₁, ⟨U', l2, c2, s2⟩, hW₁, X', ⟨g', mk, t, L, e1, e2, hq, h1, hL, h2, h3⟩, st⟩ | ⟨q, vm₁, ⟨U', l2, c2, s2⟩, hW₁, X', ⟨g', mk, t, L, E, ce, e1, e2, hq, hce, hcv, hcl, h1, hL, h2, h3⟩, st⟩
  · dsimp only [Pt.U, Pt.locs, Pt.cells, Pt.slots] at X' e1 e2 h1 h2 h3 st
    subst h1; subst h2; subst h3
    exact Or.inl ⟨v, (T.setVm vm₁).calling g' mk As.toArray, t, U', L, hT, X', hL, e1, e2, hq, st⟩
  · dsimp only [Pt.U, Pt.locs, Pt.cells, Pt.slots] at X' e1 e2 h1 h2 h3 st hcl
    subst h1; subst h2; subst h3
    exact Or.inr ⟨q, (T.setVm vm₁).calling g' mk As.toArray, t, U', L, E, ce, hT, X', hL, e1, e2, hq, hce, hcv, vx_cls hW₁ hcl, st⟩
end
end VXH
theorem vx_ofWH {l : Launch} {y : MethodName} {ws ws' : List Cond} {rm : Room} {Pc : Array Value → State → Prop} {Qc : Array Value → State → Outcome → State → Prop} {XC : String → State → State → Prop} {mc ms : Nat} {free : Addr → Prop} {cc : ByteArray} {maxL : Nat} {ret : Option FieldType} {hh : List (Nat × Nat × Nat × Nat)}
    (hy : plainName y.cls = true) (hw : ws = Cond.codeWith y cc maxL ret hh :: ws')
    (body : ∀ p e s m args below meth c s₁, BodyLoose p l y (headSpec ws rm) cc maxL ret e s m args below meth c s₁ → c.maxLocals = maxL → Pc args s →
      W p l e (headSpec ws rm).room s m args below meth c s.heap [] 0 0 (vx_MQ below Qc XC args s mc ms free) (entryFrame m args maxL)) : vx_Met l y ws rm Pc Qc XC mc ms free := by
  refine MetFree.of_bodyS (code := cc) (maxLocals := maxL) (ret := ret) hy ?_ ?_
  · intro args s m h hn
    obtain ⟨m9, meth, c, hn9, h1, h2, h3, h4, -, h5, h6, -⟩ := Cond.codeWith_spec (atoms_spec (ws := ws) h _ (by rw [hw]; exact List.mem_cons_self))
    cases hn.symm.trans hn9
    exact ⟨meth, c, h1, h2, h3, h4, h5, h6⟩
  · intro p e s m args below meth c s₁ B hml hP _
    have hh0 : s₁.heap = s.heap := by rw [B.state]; rfl
    obtain ⟨t, a1, o, b1, b2, b3⟩ := body p e s m args below meth c s₁ B hml hP s₁ hh0 (Stand.of_body B)
    exact ⟨t, o, a1, b1, b2, b3⟩
/-! ===== END ===== -/
/-! ===== BEGIN what the machine throws by itself, no traces kept ===== -/
section VXM
set_option maxHeartbeats 1000000 in
/-- the machine throws cls with the message text, no traces kept: from its note over the frame g to 'throwing' over the same frame (follows the proofs of Stand.vmThrowsMessage, Shelf/KitTracedVmS.lean, and Stand.throwsMessageColdBareV, StandMessageColdV.lean, without the step out of the frame) -/
theorem vx_vmAt {p : Program} {l : Launch} {e : Env} {R : Room} {s : State} {m₀ : MethodId} {args : Array Value} {below : List Frame} {meth : Method} {c : Code} {W : State} {locs : List Loc} {cells slots : Nat}
    (X : Stand p l e R s m₀ args below meth c W locs cells slots) (hexec : p.tables.exec = Jvm.exec) (htr : e.platform.stackTraces = false) {cls : String} {names : List String} {text : String}
    (hcls : Bundle.fit cls = true) (hnames : ∀ n ∈ names, Bundle.fit n = true) (hsoe : (cls == "java/lang/StackOverflowError") = false) (hoom : (cls == "java/lang/OutOfMemoryError") = false)
    (h : ∀ a ∈ Bundle.messageArmAtoms cls names, a.before args s = true)
    (hlocs : ∀ x ∈ locs, ∀ cell, s.heap[x.base]? = some cell → cell.vm.isStatics = false)
    (htext : (text == notModelled) = false) (hlimit : ¬ (stringBytes (stringToUtf16 text)).size > e.platform.arrayLengthLimit) (hheap : ¬ (stringBytes (stringToUtf16 text)).size * componentBytes .byte > e.platform.maxHeapBytes)
    {g : JFrame} (hg : g.method = m₀) (hsize : g.locals.size = c.maxLocals)
    (hRframes : names.length + 4 < R.frames) (hRlocals : 2 * g.monitorRoom + (g.stack.map fun v => v.category).sum + 10240 ≤ R.locals) (hshort : 13 * names.length + 55 ≤ 10240)
    (hRcells : cells + 3 ≤ R.cells) (hRslots : slots + ((stringBytes (stringToUtf16 text)).size + 4 + 6) ≤ R.slots) (hlocks : meth.locks = false) :
    ∃ (S : State) (q : Addr) (ce : Cell), (∀ target, Steps p.tables e below ((S.setTop g).pushFrame (.throwing q)) target → Steps p.tables e below ((W.setTop g).pushFrame (.throwNew cls (some text) none)) target) ∧
      Stand p l e R s m₀ args below meth c S locs (cells + 3) (slots + ((stringBytes (stringToUtf16 text)).size + 4 + 6)) ∧ S.heap[q]? = some ce ∧ s.vm.findClass cls = some ce.cls ∧ ce.vm = .none := by
  have howns : e.platform.frameOwnsMonitors = true := by rw [X.admits.platform]
  have hfin : e.platform.finalization = false := by rw [X.admits.platform]
  have hpl : e.platform.magicAccessors = ({} : Platform).magicAccessors := by rw [X.admits.platform]
  have a : ∀ x, x ∈ Bundle.messageArmAtoms cls names → x.holds args s none s [] = true := fun x hx => h x hx
  obtain ⟨T, Z0, L, -, Y⟩ := ThrowableC.of_atoms (args := args) howns hfin hpl (fun x hx => h x (by simp [Bundle.messageArmAtoms, hx]))
  obtain ⟨Z, M, LZ, LM, hnZ⟩ := Init0T.ofS_atoms (args := args) hpl L Y (fun x hx => h x (by simp [Bundle.messageArmAtoms, hx]))
  obtain ⟨P1, Ps, hlen, L1, hL, hP1m, hlink1, hlink⟩ := Bundle.chainS (args := args) hpl hnZ names cls hcls hnames (fun x hx => h x (by simp [Bundle.messageArmAtoms, hx]))
  obtain ⟨Zs, LZs, hn4, hfitv, hfitc⟩ := StringT.of_atoms (args := args) (fun x hx => h x (by simp [Bundle.messageArmAtoms, hx]))
  have hfound : s.vm.findClass cls = some P1.m.cls := findClass_of_methodNamed hP1m
  obtain ⟨c1, kX, hc1, hk, hord, -, -, hn6⟩ := Cond.instantiable_spec (a (.instantiable cls 6) (by simp [Bundle.messageArmAtoms]))
  cases Option.some.inj (hc1.symm.trans hfound)
  have hinit := Cond.initialized_spec hfound hk (a (.initialized cls) (by simp [Bundle.messageArmAtoms]))
  have hctor : kX.findMethod "<init>" "(Ljava/lang/String;)V" = some P1.m.idx := findMethod_of_methodNamed hP1m hk
  have hsel0 : selectMethod e.platform s.vm P1.m.cls T.fill0 = .method T.fill0 := by
    obtain ⟨c2, r2, m2, q1, q2, q3, q4, -⟩ := Cond.selects_spec (a (.selects cls Bundle.tFill0 Bundle.tFill0) (by simp [Bundle.messageArmAtoms]))
    cases Option.some.inj (q1.symm.trans hfound)
    cases Option.some.inj (q2.symm.trans (State.methodFound?_of_named Y.fill0 (by decide)))
    cases Option.some.inj (q3.symm.trans Y.fill0)
    rw [Launch.admits_selectMethod X.admits]; exact q4
  have hselF : selectMethod e.platform s.vm P1.m.cls T.fill = .method T.fill := by
    obtain ⟨c2, r2, m2, q1, q2, q3, q4, -⟩ := Cond.selects_spec (a (.selects cls Bundle.tFill Bundle.tFill) (by simp [Bundle.messageArmAtoms]))
    cases Option.some.inj (q1.symm.trans hfound)
    cases Option.some.inj (q2.symm.trans (State.methodFound?_of_named Y.fill (by decide)))
    cases Option.some.inj (q3.symm.trans Y.fill)
    rw [Launch.admits_selectMethod X.admits]; exact q4
  obtain ⟨cellS0, hcS0, hiss⟩ := Y.statics
  obtain ⟨u0, hu0⟩ := Cond.staticRefV Y.unassigned L.unassignedStatic L.statics hcS0 hiss (a (.isRef (.static Bundle.tN "UNASSIGNED_STACK" Bundle.steD)) (by simp [Bundle.messageArmAtoms]))
  obtain ⟨sen, hsen⟩ := Cond.staticRefV Y.sentinel L.sentinelStatic L.statics hcS0 hiss (a (.isRef (.static Bundle.tN "SUPPRESSED_SENTINEL" Bundle.listD)) (by simp [Bundle.messageArmAtoms]))
  obtain ⟨ci198, i198, fB, hk198, hg198, ha198, hsB, -, hnB, htB, hffB⟩ := Cond.ownField (t := .object "java/lang/Object") Y.found L.cls (by decide +kernel) (a (.fieldLink Bundle.tN 198 Bundle.tN "backtrace" "Ljava/lang/Object;") (by simp [Bundle.messageArmAtoms])) (a (.lays Bundle.tN Bundle.tN "backtrace" "Ljava/lang/Object;") (by simp [Bundle.messageArmAtoms])) e.platform hpl
  obtain ⟨cellS, hcS', heS, -, hkeep⟩ := X.same.2.2.2.2.2 T.aS cellS0 hcS0
  have hcellS : W.heap[T.aS]? = some cellS := hcS'
  have hout' : ∀ i, (⟨T.aS, i⟩ : Loc) ∉ locs := fun i hmem => by
    have := hlocs _ hmem cellS0 hcS0
    rw [hiss] at this; cases this
  have hknownS : cellS.vm ≠ .unknown := by
    rw [heS]; intro hu
    rw [show cellS0.vm = .unknown from hu] at hiss
    cases hiss
  have hvU : cellS.slots[T.fUnassigned.slot]? = some u0.v := by rw [hkeep _ (hout' _)]; exact hu0
  have hvSen : cellS.slots[T.fSentinel.slot]? = some sen.v := by rw [hkeep _ (hout' _)]; exact hsen
  obtain ⟨iM, hffM⟩ := Y.msg
  obtain ⟨tyC, dC, hdC, hdnC⟩ := Cond.laysAt hfound hk Y.cause (a (.lays cls Bundle.tN "cause" "Ljava/lang/Throwable;") (by simp [Bundle.messageArmAtoms]))
  obtain ⟨tyS, dS, hdS, hdnS⟩ := Cond.laysAt hfound hk Y.stack (a (.lays cls Bundle.tN "stackTrace" Bundle.steD) (by simp [Bundle.messageArmAtoms]))
  obtain ⟨tyP, dP, hdP, hdnP⟩ := Cond.laysAt hfound hk Y.supp (a (.lays cls Bundle.tN "suppressedExceptions" Bundle.listD) (by simp [Bundle.messageArmAtoms]))
  obtain ⟨tyM, dM, hdM, hdnM⟩ := Cond.laysAt hfound hk hffM (a (.lays cls Bundle.tN "detailMessage" "Ljava/lang/String;") (by simp [Bundle.messageArmAtoms]))
  obtain ⟨tyB, dB, hdB, hdnB⟩ := Cond.laysAt hfound hk hffB (a (.lays cls Bundle.tN "backtrace" "Ljava/lang/Object;") (by simp [Bundle.messageArmAtoms]))
  have bC := Cond.laysApart hdB hdC hdnB hdnC (by rw [hnB, Y.causeName]; decide)
  have bS := Cond.laysApart hdB hdS hdnB hdnS (by rw [hnB, Y.stackName]; decide)
  have bP := Cond.laysApart hdB hdP hdnB hdnP (by rw [hnB, Y.suppName]; decide)
  have hbk : ((preparedCellV T.toThrowableT (freshCell P1.m.cls kX) (W.heap.size + 2) u0 sen).withEntry W.cur).slots[fB.slot]? = some .null := by
    have := fresh_default (c := P1.m.cls) tyB
    rw [htB] at this
    simpa [preparedCellV, Cell.setSlot, Cell.withEntry, Array.getElem?_setIfInBounds, bC, bS, bP, bC.symm, bS.symm, bP.symm, defaultValue] using this
  have tkC := Takes.of_laid (v := .ref (W.heap.size + 2)) hk hord tyC (by rw [Y.causeType]; rfl)
  have tkS := Takes.of_laid (v := u0.v) hk hord tyS (by rw [Y.stackType]; exact fits_refV_array _ u0)
  have tkP := Takes.of_laid (v := sen.v) hk hord tyP (by rw [Y.suppType]; exact fits_refV_object _ sen)
  have tkM := Takes.of_laid (v := .ref (W.heap.size + 1)) hk hord tyM (by rw [Y.msgType]; rfl)
  have hskip : SkipFacts T e.platform s (fun u => u) u0 ((preparedCellV T.toThrowableT (freshCell P1.m.cls kX) (W.heap.size + 2) u0 sen).withEntry W.cur) := ⟨{ ci198 := ci198, i198 := i198, fBack := fB }, ⟨hk198, hg198, ha198, hsB⟩, hbk, fun _ _ => rfl⟩
  have h0 : At W g.method c below := by rw [hg]; exact X.here
  obtain ⟨hbeyond, hfreeW⟩ := X.vmMayThrow hsize (.throwNew cls (some text) none) (fun f hf => by cases hf) rfl hRlocals
  have hfr' : W.frames.length + Ps.length + 4 < (e.platform.stackLimits W.me).1 := by have := X.framesAbove hRframes; omega
  have hwd' : (stackUse (.java g :: W.frames.tail)).2 + 13 * Ps.length + 55 ≤ (e.platform.stackLimits W.me).2 := by have := X.stackAbove hsize (K := 13 * Ps.length + 55) (by omega); omega
  have hslots : W.slotsUsed + (stringBytes (stringToUtf16 text)).size + Zs.kS.instanceTypes.size + kX.instanceTypes.size ≤ e.platform.maxSlots := by
    have := X.slotsAbove hRslots
    rw [hn4, hn6]
    omega
  obtain ⟨vm', hW', st⟩ := Steps.vmThrowsMessageColdByV p (s₀ := s) (S := W) (g := g) h0 hexec T L Z LZ M LM X.warmed (t := W.cur) rfl Zs LZs P1 L1 Ps hL hlink1 hlink hsoe hoom hfound hk hinit hord hctor
    (Launch.admits_hotImplicitExceptions X.admits) hbeyond hfreeW htext hlimit hheap (X.cellsAbove hRcells) hslots (hfitv _) (hfitc _)
    (Nn := fun u => u) heapOnly_id (fun _ _ => rfl) (fun _ => rfl) (fun u x y => setCell_twice _ _ _ _) (fun _ => Nat.le_refl _) (cN := ((preparedCellV T.toThrowableT (freshCell P1.m.cls kX) (W.heap.size + 2) u0 sen).withEntry W.cur))
    hsel0 hcellS hknownS hvU tkS (fun _ hu => hu) (fun _ hu => hu) rfl rfl rfl (by simp [preparedCellV, Cell.setSlot, Cell.withEntry]) hskip (fun _ _ hA hW _ hroom _ hrest => L.nativeOff p htr hA hW hroom hrest) hselF hvSen tkC tkP tkM Y.objLocals rfl hfr' hwd'
  rw [plainBareV_eq T.toThrowableT (W.heap.size + 2) u0 sen (.ref (W.heap.size + 1)) W.cur rfl rfl] at st
  obtain ⟨-, -, w3, w4, -, -, -⟩ := withThrown_facts e.platform W Zs text P1.m.cls kX
  have X3 := ((X.pushed (bytesOf Zs.cB (stringToUtf16 text))).pushed (stringAt Zs.cS Zs.kS Zs.fv Zs.fc (stringToUtf16 text) W.heap.size)).pushed (freshCell P1.m.cls kX)
  rw [← withString_eq] at X3
  have X4 := X3.noted hW'
  have ha : (W.heap.size + 2) < ((withThrown W Zs text P1.m.cls kX).setVm vm').heap.size := by show _ < (withThrown W Zs text P1.m.cls kX).heap.size; rw [w3]; omega
  have hcell : ((withThrown W Zs text P1.m.cls kX).setVm vm').heap[(W.heap.size + 2)]? = some (freshCell P1.m.cls kX) := w4
  have X5 := ((((X4.stored hcell T.fCause.slot (.ref (W.heap.size + 2))).storedAgain ha T.fStack.slot u0.v).storedAgain ha T.fSupp.slot sen.v).storedAgain ha T.fStack.slot u0.v).storedAgain ha T.fMsg.slot (.ref (W.heap.size + 1))
  obtain ⟨g₁, hfrM⟩ := X5.frames_eq
  have hU : ((((withThrown W Zs text P1.m.cls kX).setVm vm').setCell (W.heap.size + 2) (plainBareV T.toThrowableT (freshCell P1.m.cls kX) (W.heap.size + 2) u0 sen (.ref (W.heap.size + 1)))).setTop g).pushFrame (.throwing (W.heap.size + 2)) = (((withThrown W Zs text P1.m.cls kX).setVm vm').setCell (W.heap.size + 2) (plainBareV T.toThrowableT (freshCell P1.m.cls kX) (W.heap.size + 2) u0 sen (.ref (W.heap.size + 1)))).setFrames (.throwing (W.heap.size + 2) :: .java g :: below) := by
    rw [State.pushFrame, State.frames_setTop _ hfrM, State.setTop_of_frames _ hfrM, State.setFrames_setFrames]
  have b1 : (bytesOf Zs.cB (stringToUtf16 text)).slots.size = (stringBytes (stringToUtf16 text)).size := by
    rw [(Cell.writeAll_facts _ _).2.2]; simp [bytes0]
  have b2 : (stringAt Zs.cS Zs.kS Zs.fv Zs.fc (stringToUtf16 text) W.heap.size).slots.size = 4 := by simp [string0, Cell.setSlot, hn4]
  have b3 : (freshCell P1.m.cls kX).slots.size = 6 := by simp [hn6]
  rw [b1, b2, b3] at X5
  have e9 : slots + (stringBytes (stringToUtf16 text)).size + 4 + 6 = slots + ((stringBytes (stringToUtf16 text)).size + 4 + 6) := by omega
  rw [e9] at X5
  simp only [List.append_assoc, List.cons_append, List.nil_append] at X5
  refine ⟨((withThrown W Zs text P1.m.cls kX).setVm vm').setCell (W.heap.size + 2) (plainBareV T.toThrowableT (freshCell P1.m.cls kX) (W.heap.size + 2) u0 sen (.ref (W.heap.size + 1))), W.heap.size + 2, _, fun target ht => st _ (by rw [X.tail, ← hU]; exact ht),
    X5.forget (fun y hy => ?_), heapAt_setCell_self _ ha, hfound, rfl⟩
  simp only [List.mem_cons, List.not_mem_nil, or_false] at hy
  have hge : s.heap.size ≤ W.heap.size := X.same.2.1
  rcases hy with rfl | rfl | rfl | rfl | rfl <;> exact Nat.le_trans hge (Nat.le_add_right _ 2)
set_option maxHeartbeats 1000000 in
/-- the machine throws NullPointerException, no traces kept: from its note over the frame g to 'throwing' over the same frame (follows the proof of Stand.vmThrowsNpe, Shelf42/KT2.lean; throwsNpeColdBareVAt, Shelf42/NT91.lean, called) -/
theorem vx_npeAt {p : Program} {l : Launch} {e : Env} {R : Room} {s : State} {m₀ : MethodId} {args : Array Value} {below : List Frame} {meth : Method} {c : Code} {W : State} {locs : List Loc} {cells slots : Nat}
    (X : Stand p l e R s m₀ args below meth c W locs cells slots) (hexec : p.tables.exec = Jvm.exec) (htr : e.platform.stackTraces = false) {n : Nat}
    (h : ∀ a ∈ Bundle.npeArmAtoms n, a.before args s = true)
    (hlocs : ∀ x ∈ locs, ∀ cell, s.heap[x.base]? = some cell → cell.vm.isStatics = false)
    {g : JFrame} (hg : g.method = m₀) (hsize : g.locals.size = c.maxLocals)
    (hRframes : 7 < R.frames) (hRlocals : 2 * g.monitorRoom + (g.stack.map fun v => v.category).sum + 10240 ≤ R.locals)
    (hRcells : cells + 1 ≤ R.cells) (hRslots : slots + n ≤ R.slots) (hlocks : meth.locks = false) :
    ∃ (S : State) (q : Addr) (ce : Cell), (∀ target, Steps p.tables e below ((S.setTop g).pushFrame (.throwing q)) target → Steps p.tables e below ((W.setTop g).pushFrame (.throwNew "java/lang/NullPointerException" none none)) target) ∧
      Stand p l e R s m₀ args below meth c S locs (cells + 1) (slots + n) ∧ S.heap[q]? = some ce ∧ s.vm.findClass "java/lang/NullPointerException" = some ce.cls ∧ ce.vm = .none := by
  have howns : e.platform.frameOwnsMonitors = true := by rw [X.admits.platform]
  have hfin : e.platform.finalization = false := by rw [X.admits.platform]
  have hpl : e.platform.magicAccessors = ({} : Platform).magicAccessors := by rw [X.admits.platform]
  have hpl2 : e.platform.arrayCloneIsPublic = true := by rw [X.admits.platform]
  have a' : ∀ x, x ∈ Bundle.npeArmAtoms n → x.holds args s none s [] = true := fun x hx => h x hx
  obtain ⟨T, Z, L, LZ, Y⟩ := ThrowableC.of_atoms (args := args) howns hfin hpl (fun x hx => h x (by simp [Bundle.npeArmAtoms, hx]))
  obtain ⟨N, LN, hcN, hnNF, hordN, hffS⟩ := NpeC.of_atoms (args := args) hpl hpl2 L Y (fun x hx => h x (by simp [Bundle.npeArmAtoms, hx]))
  obtain ⟨P1, L1, hP1m, hP1s⟩ := PassC.of_atoms (args := args) (s := s) hpl (X := Bundle.nN) (Y := Bundle.rN) (by decide) (by decide) LibCode.NullPointerException.Init0.at_0 LibCode.NullPointerException.Init0.at_1 LibCode.NullPointerException.Init0.at_4 (fun x hx => h x (by simp [Bundle.npeArmAtoms, hx]))
  obtain ⟨PR, LR, hPRm, hPRs⟩ := PassC.of_atoms (args := args) (s := s) hpl (X := Bundle.rN) (Y := Bundle.eN) (by decide) (by decide) LibCode.RuntimeException.Init0.at_0 LibCode.RuntimeException.Init0.at_1 LibCode.RuntimeException.Init0.at_4 (fun x hx => h x (by simp [Bundle.npeArmAtoms, hx]))
  obtain ⟨PE, LEx, hPEm, hPEs⟩ := PassC.of_atoms (args := args) (s := s) hpl (X := Bundle.eN) (Y := Bundle.tN) (by decide) (by decide) LibCode.Exception.Init0.at_0 LibCode.Exception.Init0.at_1 LibCode.Exception.Init0.at_4 (fun x hx => h x (by simp [Bundle.npeArmAtoms, hx]))
  have hfound : s.vm.findClass Bundle.nN = some P1.m.cls := findClass_of_methodNamed hP1m
  have ecls : N.cN = P1.m.cls := Option.some.inj (hcN.symm.trans hfound)
  have hk : s.vm.classes[P1.m.cls]? = some N.kN := by rw [← ecls]; exact LN.cls
  have hinit := Cond.initialized_spec hfound hk (a' (.initialized Bundle.nN) (by simp [Bundle.npeArmAtoms]))
  have hctor : N.kN.findMethod "<init>" "()V" = some P1.m.idx := findMethod_of_methodNamed hP1m hk
  obtain ⟨c1, k1, hc1, hk1, -, -, -, hn⟩ := Cond.instantiable_spec (a' (.instantiable Bundle.nN n) (by simp [Bundle.npeArmAtoms]))
  cases Option.some.inj (hc1.symm.trans hfound)
  cases Option.some.inj (hk1.symm.trans hk)
  have hfsz : (freshCell P1.m.cls N.kN).slots.size = n := by simp [hn]
  have hlink1 : P1.sup = PR.m := Option.some.inj (hP1s.symm.trans hPRm)
  have hlinkR : PR.sup = PE.m := Option.some.inj (hPRs.symm.trans hPEm)
  have hlinkE : PE.sup = Z.m T.toThrowableT := Option.some.inj (hPEs.symm.trans Y.init0)
  have hLs : ∀ P, P ∈ [PR, PE] → P.Links0 e.platform s := fun P hP => by
    simp only [List.mem_cons, List.not_mem_nil, or_false] at hP
    rcases hP with rfl | rfl
    · exact LR
    · exact LEx
  have hsel0 : selectMethod e.platform s.vm P1.m.cls T.fill0 = .method T.fill0 := by
    obtain ⟨c2, r2, m2, q1, q2, q3, q4, -⟩ := Cond.selects_spec (a' (.selects Bundle.nN Bundle.tFill0 Bundle.tFill0) (by simp [Bundle.npeArmAtoms]))
    cases Option.some.inj (q1.symm.trans hfound)
    cases Option.some.inj (q2.symm.trans (State.methodFound?_of_named Y.fill0 (by decide)))
    cases Option.some.inj (q3.symm.trans Y.fill0)
    rw [Launch.admits_selectMethod X.admits]; exact q4
  have hselF : selectMethod e.platform s.vm P1.m.cls T.fill = .method N.fill := by
    obtain ⟨c2, r2, m2, q1, q2, q3, q4, -⟩ := Cond.selects_spec (a' (.selects Bundle.nN Bundle.tFill Bundle.nFill) (by simp [Bundle.npeArmAtoms]))
    cases Option.some.inj (q1.symm.trans hfound)
    cases Option.some.inj (q2.symm.trans (State.methodFound?_of_named Y.fill (by decide)))
    cases Option.some.inj (q3.symm.trans hnNF)
    rw [Launch.admits_selectMethod X.admits]; exact q4
  obtain ⟨cellS0, hcS0, hiss⟩ := Y.statics
  obtain ⟨u0, hu0⟩ := Cond.staticRefV Y.unassigned L.unassignedStatic L.statics hcS0 hiss (a' (.isRef (.static Bundle.tN "UNASSIGNED_STACK" Bundle.steD)) (by simp [Bundle.npeArmAtoms]))
  obtain ⟨sen, hsen⟩ := Cond.staticRefV Y.sentinel L.sentinelStatic L.statics hcS0 hiss (a' (.isRef (.static Bundle.tN "SUPPRESSED_SENTINEL" Bundle.listD)) (by simp [Bundle.npeArmAtoms]))
  obtain ⟨ci198, i198, fB, hk198, hg198, ha198, hsB, -, hnB, htB, hffB⟩ := Cond.ownField (t := .object "java/lang/Object") Y.found L.cls (by decide +kernel) (a' (.fieldLink Bundle.tN 198 Bundle.tN "backtrace" Bundle.objD) (by simp [Bundle.npeArmAtoms])) (a' (.lays Bundle.tN Bundle.tN "backtrace" Bundle.objD) (by simp [Bundle.npeArmAtoms])) e.platform hpl
  obtain ⟨cellS, hcS', heS, -, hkeep⟩ := X.same.2.2.2.2.2 T.aS cellS0 hcS0
  have hcellS : W.heap[T.aS]? = some cellS := hcS'
  have hout' : ∀ i, (⟨T.aS, i⟩ : Loc) ∉ locs := fun i hmem => by
    have := hlocs _ hmem cellS0 hcS0
    rw [hiss] at this; cases this
  have hknownS : cellS.vm ≠ .unknown := by
    rw [heS]; intro hu
    rw [show cellS0.vm = .unknown from hu] at hiss
    cases hiss
  have hvU : cellS.slots[T.fUnassigned.slot]? = some u0.v := by rw [hkeep _ (hout' _)]; exact hu0
  have hvSen : cellS.slots[T.fSentinel.slot]? = some sen.v := by rw [hkeep _ (hout' _)]; exact hsen
  obtain ⟨tyC, dC, hdC, hdnC⟩ := Cond.laysAt hfound hk Y.cause (a' (.lays Bundle.nN Bundle.tN "cause" "Ljava/lang/Throwable;") (by simp [Bundle.npeArmAtoms]))
  obtain ⟨tyS, dS, hdS, hdnS⟩ := Cond.laysAt hfound hk Y.stack (a' (.lays Bundle.nN Bundle.tN "stackTrace" Bundle.steD) (by simp [Bundle.npeArmAtoms]))
  obtain ⟨tyP, dP, hdP, hdnP⟩ := Cond.laysAt hfound hk Y.supp (a' (.lays Bundle.nN Bundle.tN "suppressedExceptions" Bundle.listD) (by simp [Bundle.npeArmAtoms]))
  obtain ⟨tyX, dX, hdX, hdnX⟩ := Cond.laysAt hfound hk hffS (a' (.lays Bundle.nN Bundle.nN "extendedMessageState" "I") (by simp [Bundle.npeArmAtoms, Bundle.npeAtoms]))
  obtain ⟨hnX, htX⟩ := State.fieldFound?_type hffS (t := .int) (by decide +kernel)
  have xC := Cond.laysApart hdC hdX hdnC hdnX (by rw [hnX, Y.causeName]; decide)
  have xS := Cond.laysApart hdS hdX hdnS hdnX (by rw [hnX, Y.stackName]; decide)
  have xP := Cond.laysApart hdP hdX hdnP hdnX (by rw [hnX, Y.suppName]; decide)
  have hv0 : (freshCell P1.m.cls N.kN).slots[N.fState.slot]? = some (.int 0) := by
    have := fresh_default (c := P1.m.cls) tyX
    rw [htX] at this; exact this
  obtain ⟨tyB, dB, hdB, hdnB⟩ := Cond.laysAt hfound hk hffB (a' (.lays Bundle.nN Bundle.tN "backtrace" Bundle.objD) (by simp [Bundle.npeArmAtoms]))
  have bC := Cond.laysApart hdB hdC hdnB hdnC (by rw [hnB, Y.causeName]; decide)
  have bS := Cond.laysApart hdB hdS hdnB hdnS (by rw [hnB, Y.stackName]; decide)
  have bP := Cond.laysApart hdB hdP hdnB hdnP (by rw [hnB, Y.suppName]; decide)
  have bX := Cond.laysApart hdB hdX hdnB hdnX (by rw [hnB, hnX]; decide)
  have hbk : ((npeCell N.toNpeT (preparedCellV T.toThrowableT (freshCell P1.m.cls N.kN) W.heap.size u0 sen) W.cur).withEntry W.cur).slots[fB.slot]? = some .null := by
    have := fresh_default (c := P1.m.cls) tyB
    rw [htB] at this
    simpa [npeCell, preparedCellV, Cell.setSlot, Cell.withEntry, Array.getElem?_setIfInBounds, bC, bS, bP, bX, bC.symm, bS.symm, bP.symm, bX.symm, defaultValue] using this
  have tkC := Takes.of_laid (v := .ref W.heap.size) hk hordN tyC (by rw [Y.causeType]; rfl)
  have tkS := Takes.of_laid (v := u0.v) hk hordN tyS (by rw [Y.stackType]; exact fits_refV_array _ u0)
  have tkP := Takes.of_laid (v := sen.v) hk hordN tyP (by rw [Y.suppType]; exact fits_refV_object _ sen)
  have tkX := Takes.of_laid (v := .int 1) hk hordN tyX (by rw [htX]; rfl)
  have hskip : SkipFacts T e.platform s (fun u => u) u0 ((npeCell N.toNpeT (preparedCellV T.toThrowableT (freshCell P1.m.cls N.kN) W.heap.size u0 sen) W.cur).withEntry W.cur) := ⟨{ ci198 := ci198, i198 := i198, fBack := fB }, ⟨hk198, hg198, ha198, hsB⟩, hbk, fun _ _ => rfl⟩
  obtain ⟨vm', X3, st, -⟩ := X.throwsNpeColdBareVAt hexec hg hsize T L Z LZ N LN P1 L1 [PR, PE] hLs hlink1 ⟨hlinkR, hlinkE, trivial⟩ hfound hk hinit hordN hctor hsel0 hselF hcellS hknownS hvU hvSen
    hv0 xC xS xP tkC tkS tkP tkX Y.objLocals hskip (fun _ _ hA hW _ hroom _ hrest => L.nativeOff p htr hA hW hroom hrest) (by simpa using hRframes) hRlocals (by simp) hRcells (by rw [hn]; exact hRslots)
  have hlt : W.heap.size < ((W.pushCell (freshCell P1.m.cls N.kN)).setVm vm').heap.size := by
    show W.heap.size < (W.pushCell (freshCell P1.m.cls N.kN)).heap.size
    rw [State.heap_size_pushCell]; omega
  rw [hfsz] at X3
  obtain ⟨g₁, hfrM⟩ := X3.frames_eq
  have hU : ((((W.pushCell (freshCell P1.m.cls N.kN)).setVm vm').setCell W.heap.size (npeBareV T.toThrowableT N.toNpeT (freshCell P1.m.cls N.kN) W.heap.size u0 sen)).setTop g).pushFrame (.throwing W.heap.size) = (((W.pushCell (freshCell P1.m.cls N.kN)).setVm vm').setCell W.heap.size (npeBareV T.toThrowableT N.toNpeT (freshCell P1.m.cls N.kN) W.heap.size u0 sen)).setFrames (.throwing W.heap.size :: .java g :: below) := by
    rw [State.pushFrame, State.frames_setTop _ hfrM, State.setTop_of_frames _ hfrM, State.setFrames_setFrames]
  refine ⟨_, W.heap.size, _, fun target ht => st.trans (by rw [← hU]; exact ht), X3.forget (fun y hy => ?_), heapAt_setCell_self _ hlt, hfound, rfl⟩
  simp only [List.mem_cons, List.not_mem_nil, or_false] at hy
  have hge : s.heap.size ≤ W.heap.size := X.same.2.1
  rcases hy with rfl | rfl | rfl | rfl | rfl <;> exact hge
/-- the words of a machine's NullPointerException, but the four that speak of the heap -/
def vx_atN (n : Nat) : List Cond := (Bundle.npeArmAtoms n).filter vx_no
/-- the words of a machine's throw with a message, but the four that speak of the heap -/
def vx_atM (X : String) (names : List String) : List Cond := (Bundle.messageArmAtoms X names).filter vx_no
section
variable {p : Program} {l : Launch} {e : Env} {R : Room} {s : State} {m : MethodId} {args : Array Value} {below : List Frame} {meth : Method} {c : Code} {H : Heap} {locs : List Loc} {cells slots : Nat}
/-- a frame seen from a rebased start, seen from the first start again -/
theorem vx_back9 {T S : State} {R' : Room} {k n : Nat} (X : Stand p l e R s m args below meth c T locs cells slots) (Y : Stand p l e R' ((T.setVm s.vm).setFrames (.invoking m args :: below)) m args below meth c T [] 0 0) (Z : Stand p l e R' ((T.setVm s.vm).setFrames (.invoking m args :: below)) m args below meth c S [] k n) :
    Stand p l e R s m args below meth c S locs (cells + k) (slots + n) := by
  have hW0 : s.WarmedH ((T.setVm s.vm).setFrames (.invoking m args :: below)).vm := State.WarmedH.refl s
  refine { admits := X.admits, cas := X.cas, clock := X.clock, frames := X.frames, room := X.room, hears := X.hears, method := X.method, code := X.code, here := Z.here, tail := Z.tail, warmed := State.WarmedH.trans hW0 Z.warmed, limits := Z.limits.trans (Y.limits.symm.trans X.limits), bytes := Z.bytes.trans (Y.bytes.symm.trans X.bytes), same := ?_ }
  obtain ⟨e1, e2⟩ := Z.same
  rw [State.setFrames_setFrames] at e1
  have h2 : (T.setVm s.vm).sameButNew (S.setVm s.vm) [] k n := ⟨e1, e2⟩
  have h3 := X.same.trans h2
  rw [List.append_nil] at h3
  exact h3
/-- from the machine's note that E is thrown here with this text -/
def vx_Note (p : Program) (l : Launch) (e : Env) (R : Room) (s : State) (m : MethodId) (args : Array Value) (below : List Frame) (meth : Method) (c : Code) (H : Heap) (locs : List Loc) (cells slots : Nat) (Q : State → Prop) (g : JFrame) (E text : String) : Prop :=
  ∀ T : State, T.heap = H → Stand p l e R s m args below meth c T locs cells slots → ∃ t, Steps p.tables e below ((T.setTop g).pushFrame (.throwNew E (some text) none)) t ∧ Q t
theorem vx_vm {pc : Nat} {ls : Array Slot} {rest : List Value} {Q : State → Prop} (hexec : p.tables.exec = Jvm.exec) (hl : l.stackTraces = false) {cls text : String} {names : List String} {nb : Nat} {A : Nat → Prop}
    (hcls : Bundle.fit cls = true) (hnames : ∀ n ∈ names, Bundle.fit n = true) (hsoe : (cls == "java/lang/StackOverflowError") = false) (hoom : (cls == "java/lang/OutOfMemoryError") = false)
    (hat : ∀ w ∈ vx_atM cls names, w.before args s = true) (hgood : ∀ w ∈ vx_atM cls names, vx_ot w = true)
    (hU : vx_Zq Bundle.tN "UNASSIGNED_STACK" Bundle.steD A s s.heap) (hN : vx_Zq Bundle.tN "SUPPRESSED_SENTINEL" Bundle.listD A s s.heap) (hS : va_S A s.heap H locs) (hsize : ls.size = c.maxLocals)
    (htext : (text == notModelled) = false) (hnb : (stringBytes (stringToUtf16 text)).size ≤ nb) (hnb1 : nb ≤ 1000)
    (hRframes : names.length + 4 < R.frames) (hRlocals : (rest.map fun v => v.category).sum + 10240 ≤ R.locals) (hshort : 13 * names.length + 55 ≤ 10240) (hRcells : cells + 3 ≤ R.cells) (hRslots : slots + (nb + 10) ≤ R.slots) (hlocks : meth.locks = false)
    (k : ∀ (H1 : Heap) (q9 : Addr) (ce : Cell), H.size ≤ H1.size → (∀ q : Nat, q < H.size → H1[q]? = H[q]?) → va_S A s.heap H1 locs → H1[q9]? = some ce → ce.vm = .none → s.vm.findClass cls = some ce.cls → vx_W p l e R s m args below meth c H1 locs (cells + 3) (slots + (nb + 10)) Q (F0 m pc ls rest) q9) :
    vx_Note p l e R s m args below meth c H locs cells slots Q (F0 m pc ls rest) cls text := by
  intro T hT X
  have htr : e.platform.stackTraces = false := (show e.platform.stackTraces = l.stackTraces by rw [X.admits.platform]).trans hl
  have Y := vx_rebase X (R' := { frames := R.frames, locals := R.locals, cells := 3, slots := nb + 10 }) (Nat.le_refl _) (Nat.le_refl _) hRcells hRslots
  have hhp : ((T.setVm s.vm).setFrames (.invoking m args :: below)).heap = H := hT
  have hW0 : s.WarmedH ((T.setVm s.vm).setFrames (.invoking m args :: below)).vm := State.WarmedH.refl s
  have hat' : ∀ w ∈ vx_atM cls names, w.before args ((T.setVm s.vm).setFrames (.invoking m args :: below)) = true := fun w hw => vx_ot_at hW0 rfl (hgood w hw) (hat w hw)
  have hU' : vx_Zq Bundle.tN "UNASSIGNED_STACK" Bundle.steD A ((T.setVm s.vm).setFrames (.invoking m args :: below)) ((T.setVm s.vm).setFrames (.invoking m args :: below)).heap := by rw [hhp]; exact vx_Zq.moved hW0.alike (hU.kept hS.2.1)
  have hN' : vx_Zq Bundle.tN "SUPPRESSED_SENTINEL" Bundle.listD A ((T.setVm s.vm).setFrames (.invoking m args :: below)) ((T.setVm s.vm).setFrames (.invoking m args :: below)).heap := by rw [hhp]; exact vx_Zq.moved hW0.alike (hN.kept hS.2.1)
  obtain ⟨S, q, ce, st, Z, hce, hcl', hv⟩ := vx_vmAt Y hexec htr (cls := cls) (names := names) (text := text) hcls hnames hsoe hoom (vx_own hat' (vx_isRefq hU'.1) (vx_isRefq hN'.1) hU'.2.word hN'.2.word) (fun x hx => nomatch hx) htext
    (by rw [Launch.admits_arrayLengthLimit X.admits]; omega) (by rw [Launch.admits_maxHeapBytes X.admits]; simp only [componentBytes]; omega)
    (g := F0 m pc ls rest) rfl hsize hRframes (by show 2 * 0 + (rest.map fun v => v.category).sum + 10240 ≤ R.locals; omega) hshort (by show 0 + 3 ≤ 3; omega) (by show 0 + (_ + 4 + 6) ≤ nb + 10; omega) hlocks
  obtain ⟨f1, f2⟩ := vx_frame Z.same
  have f1' : H.size ≤ S.heap.size := by rw [← hT]; exact f1
  have f2' : ∀ q : Nat, q < H.size → S.heap[q]? = H[q]? := fun q hq => by
    rw [← hT]
    exact f2 q (by rw [← hT] at hq; exact hq) (fun z hz => nomatch hz)
  have X5 := vx_back9 X Y Z
  have X6 : Stand p l e R s m args below meth c S locs (cells + 3) (slots + (nb + 10)) := { X5 with same := X5.same.mono (by omega) (by omega) }
  obtain ⟨t, a1, b1⟩ := k S.heap q ce f1' f2' ⟨Nat.le_trans hS.1 f1', fun q h1 h2 => (f2' q (Nat.lt_of_lt_of_le h1 hS.1)).trans (hS.2.1 q h1 h2), hS.2.2⟩ hce hv hcl' S rfl X6
  exact ⟨t, st t a1, b1⟩
/-- from the machine's note that NullPointerException is thrown here -/
def vx_NoteN (p : Program) (l : Launch) (e : Env) (R : Room) (s : State) (m : MethodId) (args : Array Value) (below : List Frame) (meth : Method) (c : Code) (H : Heap) (locs : List Loc) (cells slots : Nat) (Q : State → Prop) (g : JFrame) : Prop :=
  ∀ T : State, T.heap = H → Stand p l e R s m args below meth c T locs cells slots → ∃ t, Steps p.tables e below ((T.setTop g).pushFrame (.throwNew "java/lang/NullPointerException" none none)) t ∧ Q t
theorem vx_npe {pc : Nat} {ls : Array Slot} {rest : List Value} {Q : State → Prop} (hexec : p.tables.exec = Jvm.exec) (hl : l.stackTraces = false) {nb : Nat} {A : Nat → Prop}
    (hat : ∀ w ∈ vx_atN nb, w.before args s = true) (hgood : ∀ w ∈ vx_atN nb, vx_ot w = true)
    (hU : vx_Zq Bundle.tN "UNASSIGNED_STACK" Bundle.steD A s s.heap) (hN : vx_Zq Bundle.tN "SUPPRESSED_SENTINEL" Bundle.listD A s s.heap) (hS : va_S A s.heap H locs) (hsize : ls.size = c.maxLocals)
    (hRframes : 7 < R.frames) (hRlocals : (rest.map fun v => v.category).sum + 10240 ≤ R.locals) (hRcells : cells + 1 ≤ R.cells) (hRslots : slots + nb ≤ R.slots) (hlocks : meth.locks = false)
    (k : ∀ (H1 : Heap) (q9 : Addr) (ce : Cell), H.size ≤ H1.size → (∀ q : Nat, q < H.size → H1[q]? = H[q]?) → va_S A s.heap H1 locs → H1[q9]? = some ce → ce.vm = .none → s.vm.findClass "java/lang/NullPointerException" = some ce.cls → vx_W p l e R s m args below meth c H1 locs (cells + 1) (slots + nb) Q (F0 m pc ls rest) q9) :
    vx_NoteN p l e R s m args below meth c H locs cells slots Q (F0 m pc ls rest) := by
  intro T hT X
  have htr : e.platform.stackTraces = false := (show e.platform.stackTraces = l.stackTraces by rw [X.admits.platform]).trans hl
  have Y := vx_rebase X (R' := { frames := R.frames, locals := R.locals, cells := 1, slots := nb }) (Nat.le_refl _) (Nat.le_refl _) hRcells hRslots
  have hhp : ((T.setVm s.vm).setFrames (.invoking m args :: below)).heap = H := hT
  have hW0 : s.WarmedH ((T.setVm s.vm).setFrames (.invoking m args :: below)).vm := State.WarmedH.refl s
  have hat' : ∀ w ∈ vx_atN nb, w.before args ((T.setVm s.vm).setFrames (.invoking m args :: below)) = true := fun w hw => vx_ot_at hW0 rfl (hgood w hw) (hat w hw)
  have hU' : vx_Zq Bundle.tN "UNASSIGNED_STACK" Bundle.steD A ((T.setVm s.vm).setFrames (.invoking m args :: below)) ((T.setVm s.vm).setFrames (.invoking m args :: below)).heap := by rw [hhp]; exact vx_Zq.moved hW0.alike (hU.kept hS.2.1)
  have hN' : vx_Zq Bundle.tN "SUPPRESSED_SENTINEL" Bundle.listD A ((T.setVm s.vm).setFrames (.invoking m args :: below)) ((T.setVm s.vm).setFrames (.invoking m args :: below)).heap := by rw [hhp]; exact vx_Zq.moved hW0.alike (hN.kept hS.2.1)
  obtain ⟨S, q, ce, st, Z, hce, hcl', hv⟩ := vx_npeAt Y hexec htr (n := nb) (vx_own hat' (vx_isRefq hU'.1) (vx_isRefq hN'.1) hU'.2.word hN'.2.word) (fun x hx => nomatch hx)
    (g := F0 m pc ls rest) rfl hsize hRframes (by show 2 * 0 + (rest.map fun v => v.category).sum + 10240 ≤ R.locals; omega) (by show 0 + 1 ≤ 1; omega) (by show 0 + nb ≤ nb; omega) hlocks
  obtain ⟨f1, f2⟩ := vx_frame Z.same
  have f1' : H.size ≤ S.heap.size := by rw [← hT]; exact f1
  have f2' : ∀ q : Nat, q < H.size → S.heap[q]? = H[q]? := fun q hq => by
    rw [← hT]
    exact f2 q (by rw [← hT] at hq; exact hq) (fun z hz => nomatch hz)
  have X5 := vx_back9 X Y Z
  have X6 : Stand p l e R s m args below meth c S locs (cells + 1) (slots + nb) := { X5 with same := X5.same.mono (by omega) (by omega) }
  obtain ⟨t, a1, b1⟩ := k S.heap q ce f1' f2' ⟨Nat.le_trans hS.1 f1', fun q h1 h2 => (f2' q (Nat.lt_of_lt_of_le h1 hS.1)).trans (hS.2.1 q h1 h2), hS.2.2⟩ hce hv hcl' S rfl X6
  exact ⟨t, st t a1, b1⟩
variable {Q : State → Prop} {cc : ByteArray} {pc : Nat} {ls : Array Slot} {rest : List Value}
theorem vx_idivZ (hexec : p.tables.exec = Jvm.exec) (hb : c.code = cc) {a b : Int32} (h0 : b = 0) (d : decode cc pc = .ok (.idiv, 1)) (k : vx_Note p l e R s m args below meth c H locs cells slots Q (F0 m pc ls rest) "java/lang/ArithmeticException" "/ by zero") :
    W p l e R s m args below meth c H locs cells slots Q (F0 m pc ls (.int b :: .int a :: rest)) := by
  intro T hT X
  obtain ⟨t, st, q⟩ := k T hT X
  exact ⟨t, X.idivZero hexec (g := F0 m pc ls (.int b :: .int a :: rest)) rfl (a := a) (rest := rest) (by rw [h0]) (by rw [hb]; exact d) t st, q⟩
theorem vx_iremZ (hexec : p.tables.exec = Jvm.exec) (hb : c.code = cc) {a b : Int32} (h0 : b = 0) (d : decode cc pc = .ok (.irem, 1)) (k : vx_Note p l e R s m args below meth c H locs cells slots Q (F0 m pc ls rest) "java/lang/ArithmeticException" "/ by zero") :
    W p l e R s m args below meth c H locs cells slots Q (F0 m pc ls (.int b :: .int a :: rest)) := by
  intro T hT X
  obtain ⟨t, st, q⟩ := k T hT X
  exact ⟨t, X.iremZero hexec (g := F0 m pc ls (.int b :: .int a :: rest)) rfl (a := a) (rest := rest) (by rw [h0]) (by rw [hb]; exact d) t st, q⟩
theorem vx_ldivZ (hexec : p.tables.exec = Jvm.exec) (hb : c.code = cc) {a b : Int64} (h0 : b = 0) (d : decode cc pc = .ok (.ldiv, 1)) (k : vx_Note p l e R s m args below meth c H locs cells slots Q (F0 m pc ls rest) "java/lang/ArithmeticException" "/ by zero") :
    W p l e R s m args below meth c H locs cells slots Q (F0 m pc ls (.long b :: .long a :: rest)) := by
  intro T hT X
  obtain ⟨t, st, q⟩ := k T hT X
  exact ⟨t, X.ldivZero hexec (g := F0 m pc ls (.long b :: .long a :: rest)) rfl (a := a) (rest := rest) (by rw [h0]) (by rw [hb]; exact d) t st, q⟩
theorem vx_lremZ (hexec : p.tables.exec = Jvm.exec) (hb : c.code = cc) {a b : Int64} (h0 : b = 0) (d : decode cc pc = .ok (.lrem, 1)) (k : vx_Note p l e R s m args below meth c H locs cells slots Q (F0 m pc ls rest) "java/lang/ArithmeticException" "/ by zero") :
    W p l e R s m args below meth c H locs cells slots Q (F0 m pc ls (.long b :: .long a :: rest)) := by
  intro T hT X
  obtain ⟨t, st, q⟩ := k T hT X
  exact ⟨t, X.lremZero hexec (g := F0 m pc ls (.long b :: .long a :: rest)) rfl (a := a) (rest := rest) (by rw [h0]) (by rw [hb]; exact d) t st, q⟩
theorem vx_ialdZ {D : va_G} {cl : List vw_C} {ws : va_W} {tys : List (ClassId × FieldType)} {a : Nat} (hexec : p.tables.exec = Jvm.exec) (hb : c.code = cc) (hK : va_K D cl tys s) (hP : va_P D cl ws H) (q0 t0 : Nat) {cA : ClassId} {n : Nat} {f : Nat → Int32} (ha : ws[q0]? = some (a, .inl (cA, n, .inl f))) (ht : tys[t0]? = some (cA, .int)) {i : Int32} (hout : ¬ vp_in i n) (hdg : decode cc pc = .ok (.iaload, 1))
    (k : ∀ tx : String, tx = (toString "Index " ++ toString i ++ toString " out of bounds for length " ++ toString n : String) → vx_Note p l e R s m args below meth c H locs cells slots Q (F0 m pc ls rest) "java/lang/ArrayIndexOutOfBoundsException" tx) : W p l e R s m args below meth c H locs cells slots Q (F0 m pc ls (.int i :: .ref a :: rest)) := by
  intro T hT X
  obtain ⟨t, st, q⟩ := k _ rfl T hT X
  refine ⟨t, ?_, q⟩
  have h1 := X.ialoadOut hexec (by rw [hT]; exact hP q0 _ ha) ((hK.2 t0 _ ht).1 n (fun j => .int (f j))) (j := i) (by show (i < 0 ∨ (arrV _ _ _).slots.size ≤ _); rw [arrV_size]; exact Classical.byContradiction hout) (g := F0 m pc ls (.int i :: .ref a :: rest)) rfl (rest := rest) rfl (by rw [hb]; exact hdg) t
  simp only [arrV_size] at h1
  exact h1 st
theorem vx_iastZ {D : va_G} {cl : List vw_C} {ws : va_W} {tys : List (ClassId × FieldType)} {a : Nat} (hexec : p.tables.exec = Jvm.exec) (hb : c.code = cc) (hK : va_K D cl tys s) (hP : va_P D cl ws H) (q0 t0 : Nat) {cA : ClassId} {n : Nat} {f : Nat → Int32} (ha : ws[q0]? = some (a, .inl (cA, n, .inl f))) (ht : tys[t0]? = some (cA, .int)) {i : Int32} {x : Int32} (hout : ¬ vp_in i n) (hdg : decode cc pc = .ok (.iastore, 1))
    (k : ∀ tx : String, tx = (toString "Index " ++ toString i ++ toString " out of bounds for length " ++ toString n : String) → vx_Note p l e R s m args below meth c H locs cells slots Q (F0 m pc ls rest) "java/lang/ArrayIndexOutOfBoundsException" tx) : W p l e R s m args below meth c H locs cells slots Q (F0 m pc ls (.int x :: .int i :: .ref a :: rest)) := by
  intro T hT X
  obtain ⟨t, st, q⟩ := k _ rfl T hT X
  refine ⟨t, ?_, q⟩
  have h1 := X.iastoreOut hexec (by rw [hT]; exact hP q0 _ ha) ((hK.2 t0 _ ht).1 n (fun j => .int (f j))) (j := i) (by show (i < 0 ∨ (arrV _ _ _).slots.size ≤ _); rw [arrV_size]; exact Classical.byContradiction hout) (g := F0 m pc ls (.int x :: .int i :: .ref a :: rest)) rfl (rest := rest) rfl (by rw [hb]; exact hdg) t
  simp only [arrV_size] at h1
  exact h1 st
theorem vx_baldZ {D : va_G} {cl : List vw_C} {ws : va_W} {tys : List (ClassId × FieldType)} {a : Nat} (hexec : p.tables.exec = Jvm.exec) (hb : c.code = cc) (hK : va_K D cl tys s) (hP : va_P D cl ws H) (q0 t0 : Nat) {cA : ClassId} {n : Nat} {f : Nat → Int32} (ha : ws[q0]? = some (a, .inl (cA, n, .inl f))) (ht : tys[t0]? = some (cA, .byte)) {i : Int32} (hout : ¬ vp_in i n) (hdg : decode cc pc = .ok (.baload, 1))
    (k : ∀ tx : String, tx = (toString "Index " ++ toString i ++ toString " out of bounds for length " ++ toString n : String) → vx_Note p l e R s m args below meth c H locs cells slots Q (F0 m pc ls rest) "java/lang/ArrayIndexOutOfBoundsException" tx) : W p l e R s m args below meth c H locs cells slots Q (F0 m pc ls (.int i :: .ref a :: rest)) := by
  intro T hT X
  obtain ⟨t, st, q⟩ := k _ rfl T hT X
  refine ⟨t, ?_, q⟩
  have h1 := X.baloadOut hexec (by rw [hT]; exact hP q0 _ ha) ((hK.2 t0 _ ht).1 n (fun j => .int (f j))) (j := i) (by show (i < 0 ∨ (arrV _ _ _).slots.size ≤ _); rw [arrV_size]; exact Classical.byContradiction hout) (g := F0 m pc ls (.int i :: .ref a :: rest)) rfl (rest := rest) rfl (by rw [hb]; exact hdg) t
  simp only [arrV_size] at h1
  exact h1 st
theorem vx_bastZ {D : va_G} {cl : List vw_C} {ws : va_W} {tys : List (ClassId × FieldType)} {a : Nat} (hexec : p.tables.exec = Jvm.exec) (hb : c.code = cc) (hK : va_K D cl tys s) (hP : va_P D cl ws H) (q0 t0 : Nat) {cA : ClassId} {n : Nat} {f : Nat → Int32} (ha : ws[q0]? = some (a, .inl (cA, n, .inl f))) (ht : tys[t0]? = some (cA, .byte)) {i : Int32} {x : Int32} (hout : ¬ vp_in i n) (hdg : decode cc pc = .ok (.bastore, 1))
    (k : ∀ tx : String, tx = (toString "Index " ++ toString i ++ toString " out of bounds for length " ++ toString n : String) → vx_Note p l e R s m args below meth c H locs cells slots Q (F0 m pc ls rest) "java/lang/ArrayIndexOutOfBoundsException" tx) : W p l e R s m args below meth c H locs cells slots Q (F0 m pc ls (.int x :: .int i :: .ref a :: rest)) := by
  intro T hT X
  obtain ⟨t, st, q⟩ := k _ rfl T hT X
  refine ⟨t, ?_, q⟩
  have h1 := X.bastoreOut hexec (by rw [hT]; exact hP q0 _ ha) ((hK.2 t0 _ ht).1 n (fun j => .int (f j))) (j := i) (by show (i < 0 ∨ (arrV _ _ _).slots.size ≤ _); rw [arrV_size]; exact Classical.byContradiction hout) (g := F0 m pc ls (.int x :: .int i :: .ref a :: rest)) rfl (rest := rest) rfl (by rw [hb]; exact hdg) t
  simp only [arrV_size] at h1
  exact h1 st
theorem vx_zaldZ {D : va_G} {cl : List vw_C} {ws : va_W} {tys : List (ClassId × FieldType)} {a : Nat} (hexec : p.tables.exec = Jvm.exec) (hb : c.code = cc) (hK : va_K D cl tys s) (hP : va_P D cl ws H) (q0 t0 : Nat) {cA : ClassId} {n : Nat} {f : Nat → Int32} (ha : ws[q0]? = some (a, .inl (cA, n, .inl f))) (ht : tys[t0]? = some (cA, .boolean)) {i : Int32} (hout : ¬ vp_in i n) (hdg : decode cc pc = .ok (.baload, 1))
    (k : ∀ tx : String, tx = (toString "Index " ++ toString i ++ toString " out of bounds for length " ++ toString n : String) → vx_Note p l e R s m args below meth c H locs cells slots Q (F0 m pc ls rest) "java/lang/ArrayIndexOutOfBoundsException" tx) : W p l e R s m args below meth c H locs cells slots Q (F0 m pc ls (.int i :: .ref a :: rest)) := by
  intro T hT X
  obtain ⟨t, st, q⟩ := k _ rfl T hT X
  refine ⟨t, ?_, q⟩
  have h1 := X.baloadOut hexec (by rw [hT]; exact hP q0 _ ha) ((hK.2 t0 _ ht).1 n (fun j => .int (f j))) (j := i) (by show (i < 0 ∨ (arrV _ _ _).slots.size ≤ _); rw [arrV_size]; exact Classical.byContradiction hout) (g := F0 m pc ls (.int i :: .ref a :: rest)) rfl (rest := rest) rfl (by rw [hb]; exact hdg) t
  simp only [arrV_size] at h1
  exact h1 st
theorem vx_zastZ {D : va_G} {cl : List vw_C} {ws : va_W} {tys : List (ClassId × FieldType)} {a : Nat} (hexec : p.tables.exec = Jvm.exec) (hb : c.code = cc) (hK : va_K D cl tys s) (hP : va_P D cl ws H) (q0 t0 : Nat) {cA : ClassId} {n : Nat} {f : Nat → Int32} (ha : ws[q0]? = some (a, .inl (cA, n, .inl f))) (ht : tys[t0]? = some (cA, .boolean)) {i : Int32} {x : Int32} (hout : ¬ vp_in i n) (hdg : decode cc pc = .ok (.bastore, 1))
    (k : ∀ tx : String, tx = (toString "Index " ++ toString i ++ toString " out of bounds for length " ++ toString n : String) → vx_Note p l e R s m args below meth c H locs cells slots Q (F0 m pc ls rest) "java/lang/ArrayIndexOutOfBoundsException" tx) : W p l e R s m args below meth c H locs cells slots Q (F0 m pc ls (.int x :: .int i :: .ref a :: rest)) := by
  intro T hT X
  obtain ⟨t, st, q⟩ := k _ rfl T hT X
  refine ⟨t, ?_, q⟩
  have h1 := X.bastoreOut hexec (by rw [hT]; exact hP q0 _ ha) ((hK.2 t0 _ ht).1 n (fun j => .int (f j))) (j := i) (by show (i < 0 ∨ (arrV _ _ _).slots.size ≤ _); rw [arrV_size]; exact Classical.byContradiction hout) (g := F0 m pc ls (.int x :: .int i :: .ref a :: rest)) rfl (rest := rest) rfl (by rw [hb]; exact hdg) t
  simp only [arrV_size] at h1
  exact h1 st
theorem vx_caldZ {D : va_G} {cl : List vw_C} {ws : va_W} {tys : List (ClassId × FieldType)} {a : Nat} (hexec : p.tables.exec = Jvm.exec) (hb : c.code = cc) (hK : va_K D cl tys s) (hP : va_P D cl ws H) (q0 t0 : Nat) {cA : ClassId} {n : Nat} {f : Nat → Int32} (ha : ws[q0]? = some (a, .inl (cA, n, .inl f))) (ht : tys[t0]? = some (cA, .char)) {i : Int32} (hout : ¬ vp_in i n) (hdg : decode cc pc = .ok (.caload, 1))
    (k : ∀ tx : String, tx = (toString "Index " ++ toString i ++ toString " out of bounds for length " ++ toString n : String) → vx_Note p l e R s m args below meth c H locs cells slots Q (F0 m pc ls rest) "java/lang/ArrayIndexOutOfBoundsException" tx) : W p l e R s m args below meth c H locs cells slots Q (F0 m pc ls (.int i :: .ref a :: rest)) := by
  intro T hT X
  obtain ⟨t, st, q⟩ := k _ rfl T hT X
  refine ⟨t, ?_, q⟩
  have h1 := X.caloadOut hexec (by rw [hT]; exact hP q0 _ ha) ((hK.2 t0 _ ht).1 n (fun j => .int (f j))) (j := i) (by show (i < 0 ∨ (arrV _ _ _).slots.size ≤ _); rw [arrV_size]; exact Classical.byContradiction hout) (g := F0 m pc ls (.int i :: .ref a :: rest)) rfl (rest := rest) rfl (by rw [hb]; exact hdg) t
  simp only [arrV_size] at h1
  exact h1 st
theorem vx_castZ {D : va_G} {cl : List vw_C} {ws : va_W} {tys : List (ClassId × FieldType)} {a : Nat} (hexec : p.tables.exec = Jvm.exec) (hb : c.code = cc) (hK : va_K D cl tys s) (hP : va_P D cl ws H) (q0 t0 : Nat) {cA : ClassId} {n : Nat} {f : Nat → Int32} (ha : ws[q0]? = some (a, .inl (cA, n, .inl f))) (ht : tys[t0]? = some (cA, .char)) {i : Int32} {x : Int32} (hout : ¬ vp_in i n) (hdg : decode cc pc = .ok (.castore, 1))
    (k : ∀ tx : String, tx = (toString "Index " ++ toString i ++ toString " out of bounds for length " ++ toString n : String) → vx_Note p l e R s m args below meth c H locs cells slots Q (F0 m pc ls rest) "java/lang/ArrayIndexOutOfBoundsException" tx) : W p l e R s m args below meth c H locs cells slots Q (F0 m pc ls (.int x :: .int i :: .ref a :: rest)) := by
  intro T hT X
  obtain ⟨t, st, q⟩ := k _ rfl T hT X
  refine ⟨t, ?_, q⟩
  have h1 := X.castoreOut hexec (by rw [hT]; exact hP q0 _ ha) ((hK.2 t0 _ ht).1 n (fun j => .int (f j))) (j := i) (by show (i < 0 ∨ (arrV _ _ _).slots.size ≤ _); rw [arrV_size]; exact Classical.byContradiction hout) (g := F0 m pc ls (.int x :: .int i :: .ref a :: rest)) rfl (rest := rest) rfl (by rw [hb]; exact hdg) t
  simp only [arrV_size] at h1
  exact h1 st
theorem vx_saldZ {D : va_G} {cl : List vw_C} {ws : va_W} {tys : List (ClassId × FieldType)} {a : Nat} (hexec : p.tables.exec = Jvm.exec) (hb : c.code = cc) (hK : va_K D cl tys s) (hP : va_P D cl ws H) (q0 t0 : Nat) {cA : ClassId} {n : Nat} {f : Nat → Int32} (ha : ws[q0]? = some (a, .inl (cA, n, .inl f))) (ht : tys[t0]? = some (cA, .short)) {i : Int32} (hout : ¬ vp_in i n) (hdg : decode cc pc = .ok (.saload, 1))
    (k : ∀ tx : String, tx = (toString "Index " ++ toString i ++ toString " out of bounds for length " ++ toString n : String) → vx_Note p l e R s m args below meth c H locs cells slots Q (F0 m pc ls rest) "java/lang/ArrayIndexOutOfBoundsException" tx) : W p l e R s m args below meth c H locs cells slots Q (F0 m pc ls (.int i :: .ref a :: rest)) := by
  intro T hT X
  obtain ⟨t, st, q⟩ := k _ rfl T hT X
  refine ⟨t, ?_, q⟩
  have h1 := X.saloadOut hexec (by rw [hT]; exact hP q0 _ ha) ((hK.2 t0 _ ht).1 n (fun j => .int (f j))) (j := i) (by show (i < 0 ∨ (arrV _ _ _).slots.size ≤ _); rw [arrV_size]; exact Classical.byContradiction hout) (g := F0 m pc ls (.int i :: .ref a :: rest)) rfl (rest := rest) rfl (by rw [hb]; exact hdg) t
  simp only [arrV_size] at h1
  exact h1 st
theorem vx_sastZ {D : va_G} {cl : List vw_C} {ws : va_W} {tys : List (ClassId × FieldType)} {a : Nat} (hexec : p.tables.exec = Jvm.exec) (hb : c.code = cc) (hK : va_K D cl tys s) (hP : va_P D cl ws H) (q0 t0 : Nat) {cA : ClassId} {n : Nat} {f : Nat → Int32} (ha : ws[q0]? = some (a, .inl (cA, n, .inl f))) (ht : tys[t0]? = some (cA, .short)) {i : Int32} {x : Int32} (hout : ¬ vp_in i n) (hdg : decode cc pc = .ok (.sastore, 1))
    (k : ∀ tx : String, tx = (toString "Index " ++ toString i ++ toString " out of bounds for length " ++ toString n : String) → vx_Note p l e R s m args below meth c H locs cells slots Q (F0 m pc ls rest) "java/lang/ArrayIndexOutOfBoundsException" tx) : W p l e R s m args below meth c H locs cells slots Q (F0 m pc ls (.int x :: .int i :: .ref a :: rest)) := by
  intro T hT X
  obtain ⟨t, st, q⟩ := k _ rfl T hT X
  refine ⟨t, ?_, q⟩
  have h1 := X.sastoreOut hexec (by rw [hT]; exact hP q0 _ ha) ((hK.2 t0 _ ht).1 n (fun j => .int (f j))) (j := i) (by show (i < 0 ∨ (arrV _ _ _).slots.size ≤ _); rw [arrV_size]; exact Classical.byContradiction hout) (g := F0 m pc ls (.int x :: .int i :: .ref a :: rest)) rfl (rest := rest) rfl (by rw [hb]; exact hdg) t
  simp only [arrV_size] at h1
  exact h1 st
theorem vx_laldZ {D : va_G} {cl : List vw_C} {ws : va_W} {tys : List (ClassId × FieldType)} {a : Nat} (hexec : p.tables.exec = Jvm.exec) (hb : c.code = cc) (hK : va_K D cl tys s) (hP : va_P D cl ws H) (q0 t0 : Nat) {cA : ClassId} {n : Nat} {f : Nat → Int64} (ha : ws[q0]? = some (a, .inl (cA, n, .inr (.inl f)))) (ht : tys[t0]? = some (cA, .long)) {i : Int32} (hout : ¬ vp_in i n) (hdg : decode cc pc = .ok (.laload, 1))
    (k : ∀ tx : String, tx = (toString "Index " ++ toString i ++ toString " out of bounds for length " ++ toString n : String) → vx_Note p l e R s m args below meth c H locs cells slots Q (F0 m pc ls rest) "java/lang/ArrayIndexOutOfBoundsException" tx) : W p l e R s m args below meth c H locs cells slots Q (F0 m pc ls (.int i :: .ref a :: rest)) := by
  intro T hT X
  obtain ⟨t, st, q⟩ := k _ rfl T hT X
  refine ⟨t, ?_, q⟩
  have h1 := X.laloadOut hexec (by rw [hT]; exact hP q0 _ ha) ((hK.2 t0 _ ht).1 n (fun j => .long (f j))) (j := i) (by show (i < 0 ∨ (arrV _ _ _).slots.size ≤ _); rw [arrV_size]; exact Classical.byContradiction hout) (g := F0 m pc ls (.int i :: .ref a :: rest)) rfl (rest := rest) rfl (by rw [hb]; exact hdg) t
  simp only [arrV_size] at h1
  exact h1 st
theorem vx_lastZ {D : va_G} {cl : List vw_C} {ws : va_W} {tys : List (ClassId × FieldType)} {a : Nat} (hexec : p.tables.exec = Jvm.exec) (hb : c.code = cc) (hK : va_K D cl tys s) (hP : va_P D cl ws H) (q0 t0 : Nat) {cA : ClassId} {n : Nat} {f : Nat → Int64} (ha : ws[q0]? = some (a, .inl (cA, n, .inr (.inl f)))) (ht : tys[t0]? = some (cA, .long)) {i : Int32} {x : Int64} (hout : ¬ vp_in i n) (hdg : decode cc pc = .ok (.lastore, 1))
    (k : ∀ tx : String, tx = (toString "Index " ++ toString i ++ toString " out of bounds for length " ++ toString n : String) → vx_Note p l e R s m args below meth c H locs cells slots Q (F0 m pc ls rest) "java/lang/ArrayIndexOutOfBoundsException" tx) : W p l e R s m args below meth c H locs cells slots Q (F0 m pc ls (.long x :: .int i :: .ref a :: rest)) := by
  intro T hT X
  obtain ⟨t, st, q⟩ := k _ rfl T hT X
  refine ⟨t, ?_, q⟩
  have h1 := X.lastoreOut hexec (by rw [hT]; exact hP q0 _ ha) ((hK.2 t0 _ ht).1 n (fun j => .long (f j))) (j := i) (by show (i < 0 ∨ (arrV _ _ _).slots.size ≤ _); rw [arrV_size]; exact Classical.byContradiction hout) (g := F0 m pc ls (.long x :: .int i :: .ref a :: rest)) rfl (rest := rest) rfl (by rw [hb]; exact hdg) t
  simp only [arrV_size] at h1
  exact h1 st
theorem vx_faldZ {D : va_G} {cl : List vw_C} {ws : va_W} {tys : List (ClassId × FieldType)} {a : Nat} (hexec : p.tables.exec = Jvm.exec) (hb : c.code = cc) (hK : va_K D cl tys s) (hP : va_P D cl ws H) (q0 t0 : Nat) {cA : ClassId} {n : Nat} {f : Nat → UInt32} (ha : ws[q0]? = some (a, .inl (cA, n, .inr (.inr (.inl f))))) (ht : tys[t0]? = some (cA, .float)) {i : Int32} (hout : ¬ vp_in i n) (hdg : decode cc pc = .ok (.faload, 1))
    (k : ∀ tx : String, tx = (toString "Index " ++ toString i ++ toString " out of bounds for length " ++ toString n : String) → vx_Note p l e R s m args below meth c H locs cells slots Q (F0 m pc ls rest) "java/lang/ArrayIndexOutOfBoundsException" tx) : W p l e R s m args below meth c H locs cells slots Q (F0 m pc ls (.int i :: .ref a :: rest)) := by
  intro T hT X
  obtain ⟨t, st, q⟩ := k _ rfl T hT X
  refine ⟨t, ?_, q⟩
  have h1 := X.faloadOut hexec (by rw [hT]; exact hP q0 _ ha) ((hK.2 t0 _ ht).1 n (fun j => .float (f j))) (j := i) (by show (i < 0 ∨ (arrV _ _ _).slots.size ≤ _); rw [arrV_size]; exact Classical.byContradiction hout) (g := F0 m pc ls (.int i :: .ref a :: rest)) rfl (rest := rest) rfl (by rw [hb]; exact hdg) t
  simp only [arrV_size] at h1
  exact h1 st
theorem vx_fastZ {D : va_G} {cl : List vw_C} {ws : va_W} {tys : List (ClassId × FieldType)} {a : Nat} (hexec : p.tables.exec = Jvm.exec) (hb : c.code = cc) (hK : va_K D cl tys s) (hP : va_P D cl ws H) (q0 t0 : Nat) {cA : ClassId} {n : Nat} {f : Nat → UInt32} (ha : ws[q0]? = some (a, .inl (cA, n, .inr (.inr (.inl f))))) (ht : tys[t0]? = some (cA, .float)) {i : Int32} {x : UInt32} (hout : ¬ vp_in i n) (hdg : decode cc pc = .ok (.fastore, 1))
    (k : ∀ tx : String, tx = (toString "Index " ++ toString i ++ toString " out of bounds for length " ++ toString n : String) → vx_Note p l e R s m args below meth c H locs cells slots Q (F0 m pc ls rest) "java/lang/ArrayIndexOutOfBoundsException" tx) : W p l e R s m args below meth c H locs cells slots Q (F0 m pc ls (.float x :: .int i :: .ref a :: rest)) := by
  intro T hT X
  obtain ⟨t, st, q⟩ := k _ rfl T hT X
  refine ⟨t, ?_, q⟩
  have h1 := X.fastoreOut hexec (by rw [hT]; exact hP q0 _ ha) ((hK.2 t0 _ ht).1 n (fun j => .float (f j))) (j := i) (by show (i < 0 ∨ (arrV _ _ _).slots.size ≤ _); rw [arrV_size]; exact Classical.byContradiction hout) (g := F0 m pc ls (.float x :: .int i :: .ref a :: rest)) rfl (rest := rest) rfl (by rw [hb]; exact hdg) t
  simp only [arrV_size] at h1
  exact h1 st
theorem vx_daldZ {D : va_G} {cl : List vw_C} {ws : va_W} {tys : List (ClassId × FieldType)} {a : Nat} (hexec : p.tables.exec = Jvm.exec) (hb : c.code = cc) (hK : va_K D cl tys s) (hP : va_P D cl ws H) (q0 t0 : Nat) {cA : ClassId} {n : Nat} {f : Nat → UInt64} (ha : ws[q0]? = some (a, .inl (cA, n, .inr (.inr (.inr (.inl f)))))) (ht : tys[t0]? = some (cA, .double)) {i : Int32} (hout : ¬ vp_in i n) (hdg : decode cc pc = .ok (.daload, 1))
    (k : ∀ tx : String, tx = (toString "Index " ++ toString i ++ toString " out of bounds for length " ++ toString n : String) → vx_Note p l e R s m args below meth c H locs cells slots Q (F0 m pc ls rest) "java/lang/ArrayIndexOutOfBoundsException" tx) : W p l e R s m args below meth c H locs cells slots Q (F0 m pc ls (.int i :: .ref a :: rest)) := by
  intro T hT X
  obtain ⟨t, st, q⟩ := k _ rfl T hT X
  refine ⟨t, ?_, q⟩
  have h1 := X.daloadOut hexec (by rw [hT]; exact hP q0 _ ha) ((hK.2 t0 _ ht).1 n (fun j => .double (f j))) (j := i) (by show (i < 0 ∨ (arrV _ _ _).slots.size ≤ _); rw [arrV_size]; exact Classical.byContradiction hout) (g := F0 m pc ls (.int i :: .ref a :: rest)) rfl (rest := rest) rfl (by rw [hb]; exact hdg) t
  simp only [arrV_size] at h1
  exact h1 st
theorem vx_dastZ {D : va_G} {cl : List vw_C} {ws : va_W} {tys : List (ClassId × FieldType)} {a : Nat} (hexec : p.tables.exec = Jvm.exec) (hb : c.code = cc) (hK : va_K D cl tys s) (hP : va_P D cl ws H) (q0 t0 : Nat) {cA : ClassId} {n : Nat} {f : Nat → UInt64} (ha : ws[q0]? = some (a, .inl (cA, n, .inr (.inr (.inr (.inl f)))))) (ht : tys[t0]? = some (cA, .double)) {i : Int32} {x : UInt64} (hout : ¬ vp_in i n) (hdg : decode cc pc = .ok (.dastore, 1))
    (k : ∀ tx : String, tx = (toString "Index " ++ toString i ++ toString " out of bounds for length " ++ toString n : String) → vx_Note p l e R s m args below meth c H locs cells slots Q (F0 m pc ls rest) "java/lang/ArrayIndexOutOfBoundsException" tx) : W p l e R s m args below meth c H locs cells slots Q (F0 m pc ls (.double x :: .int i :: .ref a :: rest)) := by
  intro T hT X
  obtain ⟨t, st, q⟩ := k _ rfl T hT X
  refine ⟨t, ?_, q⟩
  have h1 := X.dastoreOut hexec (by rw [hT]; exact hP q0 _ ha) ((hK.2 t0 _ ht).1 n (fun j => .double (f j))) (j := i) (by show (i < 0 ∨ (arrV _ _ _).slots.size ≤ _); rw [arrV_size]; exact Classical.byContradiction hout) (g := F0 m pc ls (.double x :: .int i :: .ref a :: rest)) rfl (rest := rest) rfl (by rw [hb]; exact hdg) t
  simp only [arrV_size] at h1
  exact h1 st
theorem vx_arraylengthN (hexec : p.tables.exec = Jvm.exec) (hb : c.code = cc) (hdg : decode cc pc = .ok (.arraylength, 1)) (k : vx_NoteN p l e R s m args below meth c H locs cells slots Q (F0 m pc ls rest)) : W p l e R s m args below meth c H locs cells slots Q (F0 m pc ls (.null :: rest)) := by
  intro T hT X
  obtain ⟨t, st, q⟩ := k T hT X
  exact ⟨t, X.arraylengthNull hexec (g := F0 m pc ls (.null :: rest)) rfl (rest := rest) rfl (by rw [hb]; exact hdg) t st, q⟩
theorem vx_ialoadN (hexec : p.tables.exec = Jvm.exec) (hb : c.code = cc) {i : Int32} (hdg : decode cc pc = .ok (.iaload, 1)) (k : vx_NoteN p l e R s m args below meth c H locs cells slots Q (F0 m pc ls rest)) : W p l e R s m args below meth c H locs cells slots Q (F0 m pc ls (.int i :: .null :: rest)) := by
  intro T hT X
  obtain ⟨t, st, q⟩ := k T hT X
  exact ⟨t, X.ialoadNull hexec (g := F0 m pc ls (.int i :: .null :: rest)) rfl (rest := rest) rfl (by rw [hb]; exact hdg) t st, q⟩
theorem vx_laloadN (hexec : p.tables.exec = Jvm.exec) (hb : c.code = cc) {i : Int32} (hdg : decode cc pc = .ok (.laload, 1)) (k : vx_NoteN p l e R s m args below meth c H locs cells slots Q (F0 m pc ls rest)) : W p l e R s m args below meth c H locs cells slots Q (F0 m pc ls (.int i :: .null :: rest)) := by
  intro T hT X
  obtain ⟨t, st, q⟩ := k T hT X
  exact ⟨t, X.laloadNull hexec (g := F0 m pc ls (.int i :: .null :: rest)) rfl (rest := rest) rfl (by rw [hb]; exact hdg) t st, q⟩
theorem vx_faloadN (hexec : p.tables.exec = Jvm.exec) (hb : c.code = cc) {i : Int32} (hdg : decode cc pc = .ok (.faload, 1)) (k : vx_NoteN p l e R s m args below meth c H locs cells slots Q (F0 m pc ls rest)) : W p l e R s m args below meth c H locs cells slots Q (F0 m pc ls (.int i :: .null :: rest)) := by
  intro T hT X
  obtain ⟨t, st, q⟩ := k T hT X
  exact ⟨t, X.faloadNull hexec (g := F0 m pc ls (.int i :: .null :: rest)) rfl (rest := rest) rfl (by rw [hb]; exact hdg) t st, q⟩
theorem vx_daloadN (hexec : p.tables.exec = Jvm.exec) (hb : c.code = cc) {i : Int32} (hdg : decode cc pc = .ok (.daload, 1)) (k : vx_NoteN p l e R s m args below meth c H locs cells slots Q (F0 m pc ls rest)) : W p l e R s m args below meth c H locs cells slots Q (F0 m pc ls (.int i :: .null :: rest)) := by
  intro T hT X
  obtain ⟨t, st, q⟩ := k T hT X
  exact ⟨t, X.daloadNull hexec (g := F0 m pc ls (.int i :: .null :: rest)) rfl (rest := rest) rfl (by rw [hb]; exact hdg) t st, q⟩
theorem vx_aaloadN (hexec : p.tables.exec = Jvm.exec) (hb : c.code = cc) {i : Int32} (hdg : decode cc pc = .ok (.aaload, 1)) (k : vx_NoteN p l e R s m args below meth c H locs cells slots Q (F0 m pc ls rest)) : W p l e R s m args below meth c H locs cells slots Q (F0 m pc ls (.int i :: .null :: rest)) := by
  intro T hT X
  obtain ⟨t, st, q⟩ := k T hT X
  exact ⟨t, X.aaloadNull hexec (g := F0 m pc ls (.int i :: .null :: rest)) rfl (rest := rest) rfl (by rw [hb]; exact hdg) t st, q⟩
theorem vx_baloadN (hexec : p.tables.exec = Jvm.exec) (hb : c.code = cc) {i : Int32} (hdg : decode cc pc = .ok (.baload, 1)) (k : vx_NoteN p l e R s m args below meth c H locs cells slots Q (F0 m pc ls rest)) : W p l e R s m args below meth c H locs cells slots Q (F0 m pc ls (.int i :: .null :: rest)) := by
  intro T hT X
  obtain ⟨t, st, q⟩ := k T hT X
  exact ⟨t, X.baloadNull hexec (g := F0 m pc ls (.int i :: .null :: rest)) rfl (rest := rest) rfl (by rw [hb]; exact hdg) t st, q⟩
theorem vx_caloadN (hexec : p.tables.exec = Jvm.exec) (hb : c.code = cc) {i : Int32} (hdg : decode cc pc = .ok (.caload, 1)) (k : vx_NoteN p l e R s m args below meth c H locs cells slots Q (F0 m pc ls rest)) : W p l e R s m args below meth c H locs cells slots Q (F0 m pc ls (.int i :: .null :: rest)) := by
  intro T hT X
  obtain ⟨t, st, q⟩ := k T hT X
  exact ⟨t, X.caloadNull hexec (g := F0 m pc ls (.int i :: .null :: rest)) rfl (rest := rest) rfl (by rw [hb]; exact hdg) t st, q⟩
theorem vx_saloadN (hexec : p.tables.exec = Jvm.exec) (hb : c.code = cc) {i : Int32} (hdg : decode cc pc = .ok (.saload, 1)) (k : vx_NoteN p l e R s m args below meth c H locs cells slots Q (F0 m pc ls rest)) : W p l e R s m args below meth c H locs cells slots Q (F0 m pc ls (.int i :: .null :: rest)) := by
  intro T hT X
  obtain ⟨t, st, q⟩ := k T hT X
  exact ⟨t, X.saloadNull hexec (g := F0 m pc ls (.int i :: .null :: rest)) rfl (rest := rest) rfl (by rw [hb]; exact hdg) t st, q⟩
theorem vx_iastoreN (hexec : p.tables.exec = Jvm.exec) (hb : c.code = cc) {x : Int32} {i : Int32} (hdg : decode cc pc = .ok (.iastore, 1)) (k : vx_NoteN p l e R s m args below meth c H locs cells slots Q (F0 m pc ls rest)) : W p l e R s m args below meth c H locs cells slots Q (F0 m pc ls (.int x :: .int i :: .null :: rest)) := by
  intro T hT X
  obtain ⟨t, st, q⟩ := k T hT X
  exact ⟨t, X.iastoreNull hexec (g := F0 m pc ls (.int x :: .int i :: .null :: rest)) rfl (rest := rest) rfl (by rw [hb]; exact hdg) t st, q⟩
theorem vx_lastoreN (hexec : p.tables.exec = Jvm.exec) (hb : c.code = cc) {x : Int64} {i : Int32} (hdg : decode cc pc = .ok (.lastore, 1)) (k : vx_NoteN p l e R s m args below meth c H locs cells slots Q (F0 m pc ls rest)) : W p l e R s m args below meth c H locs cells slots Q (F0 m pc ls (.long x :: .int i :: .null :: rest)) := by
  intro T hT X
  obtain ⟨t, st, q⟩ := k T hT X
  exact ⟨t, X.lastoreNull hexec (g := F0 m pc ls (.long x :: .int i :: .null :: rest)) rfl (rest := rest) rfl (by rw [hb]; exact hdg) t st, q⟩
theorem vx_fastoreN (hexec : p.tables.exec = Jvm.exec) (hb : c.code = cc) {x : UInt32} {i : Int32} (hdg : decode cc pc = .ok (.fastore, 1)) (k : vx_NoteN p l e R s m args below meth c H locs cells slots Q (F0 m pc ls rest)) : W p l e R s m args below meth c H locs cells slots Q (F0 m pc ls (.float x :: .int i :: .null :: rest)) := by
  intro T hT X
  obtain ⟨t, st, q⟩ := k T hT X
  exact ⟨t, X.fastoreNull hexec (g := F0 m pc ls (.float x :: .int i :: .null :: rest)) rfl (rest := rest) rfl (by rw [hb]; exact hdg) t st, q⟩
theorem vx_dastoreN (hexec : p.tables.exec = Jvm.exec) (hb : c.code = cc) {x : UInt64} {i : Int32} (hdg : decode cc pc = .ok (.dastore, 1)) (k : vx_NoteN p l e R s m args below meth c H locs cells slots Q (F0 m pc ls rest)) : W p l e R s m args below meth c H locs cells slots Q (F0 m pc ls (.double x :: .int i :: .null :: rest)) := by
  intro T hT X
  obtain ⟨t, st, q⟩ := k T hT X
  exact ⟨t, X.dastoreNull hexec (g := F0 m pc ls (.double x :: .int i :: .null :: rest)) rfl (rest := rest) rfl (by rw [hb]; exact hdg) t st, q⟩
theorem vx_bastoreN (hexec : p.tables.exec = Jvm.exec) (hb : c.code = cc) {x : Int32} {i : Int32} (hdg : decode cc pc = .ok (.bastore, 1)) (k : vx_NoteN p l e R s m args below meth c H locs cells slots Q (F0 m pc ls rest)) : W p l e R s m args below meth c H locs cells slots Q (F0 m pc ls (.int x :: .int i :: .null :: rest)) := by
  intro T hT X
  obtain ⟨t, st, q⟩ := k T hT X
  exact ⟨t, X.bastoreNull hexec (g := F0 m pc ls (.int x :: .int i :: .null :: rest)) rfl (rest := rest) rfl (by rw [hb]; exact hdg) t st, q⟩
theorem vx_castoreN (hexec : p.tables.exec = Jvm.exec) (hb : c.code = cc) {x : Int32} {i : Int32} (hdg : decode cc pc = .ok (.castore, 1)) (k : vx_NoteN p l e R s m args below meth c H locs cells slots Q (F0 m pc ls rest)) : W p l e R s m args below meth c H locs cells slots Q (F0 m pc ls (.int x :: .int i :: .null :: rest)) := by
  intro T hT X
  obtain ⟨t, st, q⟩ := k T hT X
  exact ⟨t, X.castoreNull hexec (g := F0 m pc ls (.int x :: .int i :: .null :: rest)) rfl (rest := rest) rfl (by rw [hb]; exact hdg) t st, q⟩
theorem vx_sastoreN (hexec : p.tables.exec = Jvm.exec) (hb : c.code = cc) {x : Int32} {i : Int32} (hdg : decode cc pc = .ok (.sastore, 1)) (k : vx_NoteN p l e R s m args below meth c H locs cells slots Q (F0 m pc ls rest)) : W p l e R s m args below meth c H locs cells slots Q (F0 m pc ls (.int x :: .int i :: .null :: rest)) := by
  intro T hT X
  obtain ⟨t, st, q⟩ := k T hT X
  exact ⟨t, X.sastoreNull hexec (g := F0 m pc ls (.int x :: .int i :: .null :: rest)) rfl (rest := rest) rfl (by rw [hb]; exact hdg) t st, q⟩
theorem vx_invokeN {own C : String} {index maxL : Nat} {y : MethodName} {bytes : ByteArray} {ret : Option FieldType} (hexec : p.tables.exec = Jvm.exec) (hb : c.code = cc) (hown : s.vm.findClass own = some m.cls) (hlink : (Cond.methodLink own index y).before args s = true) (hinst : (Cond.instanceMethod y).before args s = true) (hcode : (Cond.code y bytes maxL ret).before args s = true) (hsel : (Cond.selects C y y).before args s = true)
    (hx : y.cls ≠ "java/lang/invoke/MethodHandle" ∧ y.cls ≠ "java/lang/invoke/VarHandle") {As : List Value} (hlen : (parseMethodDescriptor y.desc).map (fun d => d.parameters.length) = some As.length) (hdg : decode cc pc = .ok (.invokevirtual index, 3))
    (k : vx_NoteN p l e R s m args below meth c H locs cells slots Q (F0 m pc ls rest)) {st0 : List Value} (hst : st0 = As.reverse ++ .null :: rest) : W p l e R s m args below meth c H locs cells slots Q (F0 m pc ls st0) := by
  intro T hT X
  obtain ⟨r0, r, hn, hrm, hstR, hsigR⟩ := va_Decl.of hinst hcode
  obtain ⟨c2, r2, m2, q1, q2, q3, q4, kP, hkP, hkPi⟩ := Cond.selects_spec hsel
  cases hn.symm.trans q3
  have hl9 : As.length = r.sig.parameters.length := by
    rw [hsigR] at hlen
    exact (Option.some.inj hlen).symm
  obtain ⟨vm', X1, st1⟩ := X.invokevirtualNull hexec hown hlink hn hrm hstR hkP hkPi hx (g := F0 m pc ls st0) rfl (argsL := As) (rest := rest) hl9 hst (by rw [hb]; exact hdg)
  obtain ⟨t, st, q⟩ := k (T.setVm vm') hT X1
  exact ⟨t, st1 t st, q⟩
theorem vx_newarrayZ {atype : ArrayType} (hexec : p.tables.exec = Jvm.exec) (hb : c.code = cc) {n : Int32} (h0 : n < 0) (hdg : decode cc pc = .ok (.newarray atype, 2)) (k : ∀ tx : String, tx = toString n → vx_Note p l e R s m args below meth c H locs cells slots Q (F0 m pc ls rest) "java/lang/NegativeArraySizeException" tx) : W p l e R s m args below meth c H locs cells slots Q (F0 m pc ls (.int n :: rest)) := by
  intro T hT X
  obtain ⟨t, st, q⟩ := k _ rfl T hT X
  exact ⟨t, X.newarrayNegative hexec (g := F0 m pc ls (.int n :: rest)) rfl h0 (rest := rest) rfl (by rw [hb]; exact hdg) t st, q⟩
end
end VXM
/-! ===== END ===== -/
/-! ===== BEGIN an exception as an object: made, kept, thrown later (no traces kept) ===== -/
section VXK
variable {p : Program} {l : Launch} {e : Env} {R : Room} {s : State} {m₀ : MethodId} {args : Array Value} {below : List Frame} {meth : Method} {c : Code} {W : State} {locs : List Loc} {cells slots : Nat}
set_option maxHeartbeats 1000000 in
theorem vx_ctorMadeS (X : Stand p l e R s m₀ args below meth c W locs cells slots) (hexec : p.tables.exec = Jvm.exec) (htr : e.platform.stackTraces = false) {own cls : String} {names : List String} {ic : Nat}
    (hown : s.vm.findClass own = some m₀.cls) (hcls : Bundle.fit cls = true) (hnames : ∀ n ∈ names, Bundle.fit n = true)
    (h : ∀ a ∈ Bundle.ownAtoms own ic cls names, a.before args s = true)
    (hlocs : ∀ x ∈ locs, ∀ cell, s.heap[x.base]? = some cell → cell.vm.isStatics = false)
    {a : Addr} {cX : ClassId} {kX : Class} (hfoundX : s.vm.findClass cls = some cX) (hkX : s.vm.classes[cX]? = some kX) (hcell : W.heap[a]? = some (freshCell cX kX)) (hnew : s.heap.size ≤ a)
    {msg : Value} (hmsg : msg.isRef = true)
    {g : JFrame} (hg : g.method = m₀) (hsize : g.locals.size = c.maxLocals) {rest : List Value} (hstack : g.stack = msg :: .ref a :: .ref a :: rest)
    (hd6 : decode c.code g.pc = .ok (.invokespecial ic, 3))
    (hRframes : names.length + 3 < R.frames) (hRlocals : 2 * g.monitorRoom + ((Value.ref a :: rest).map fun v => v.category).sum + (13 * (names.length + 1) + 42) ≤ R.locals) :
    ∃ (V : State) (ce : Cell) (L : List Loc), Stand p l e R s m₀ args below meth c (V.setCell a ce) (locs ++ L) cells slots ∧ (∀ y ∈ L, y.base = a) ∧ a < V.heap.size ∧ ce.cls = cX ∧ ce.vm = .none ∧
      ∀ target, Steps p.tables e below ((V.setCell a ce).setTop { g with stack := .ref a :: rest, pc := g.pc + 3 }) target → Steps p.tables e below (W.setTop g) target := by
  have howns : e.platform.frameOwnsMonitors = true := by rw [X.admits.platform]
  have hfin : e.platform.finalization = false := by rw [X.admits.platform]
  have hpl : e.platform.magicAccessors = ({} : Platform).magicAccessors := by rw [X.admits.platform]
  have a' : ∀ x, x ∈ Bundle.ownAtoms own ic cls names → x.holds args s none s [] = true := fun x hx => h x hx
  obtain ⟨T, Z0, L, -, Y⟩ := ThrowableC.of_atoms (args := args) howns hfin hpl (fun x hx => h x (by simp [Bundle.ownAtoms, hx]))
  obtain ⟨Z, M, LZ, LM, hnZ⟩ := Init0T.ofS_atoms (args := args) hpl L Y (fun x hx => h x (by simp [Bundle.ownAtoms, hx]))
  obtain ⟨P1, Ps, hlen, L1, hL, hP1m, hlink1, hlink⟩ := Bundle.chainS (args := args) hpl hnZ names cls hcls hnames (fun x hx => h x (by simp [Bundle.ownAtoms, hx]))
  have hfound : s.vm.findClass cls = some P1.m.cls := findClass_of_methodNamed hP1m
  cases Option.some.inj (hfoundX.symm.trans hfound)
  obtain ⟨c1, kX', hc1, hk, hord, -, -, hn6⟩ := Cond.instantiable_spec (a' (.instantiable cls 6) (by simp [Bundle.ownAtoms]))
  cases Option.some.inj (hc1.symm.trans hfound)
  cases Option.some.inj (hkX.symm.trans hk)
  have hsel0 : selectMethod e.platform s.vm P1.m.cls T.fill0 = .method T.fill0 := by
    obtain ⟨c2, r2, m2, q1, q2, q3, q4, -⟩ := Cond.selects_spec (a' (.selects cls Bundle.tFill0 Bundle.tFill0) (by simp [Bundle.ownAtoms]))
    cases Option.some.inj (q1.symm.trans hfound)
    cases Option.some.inj (q2.symm.trans (State.methodFound?_of_named Y.fill0 (by decide)))
    cases Option.some.inj (q3.symm.trans Y.fill0)
    rw [Launch.admits_selectMethod X.admits]; exact q4
  have hselF : selectMethod e.platform s.vm P1.m.cls T.fill = .method T.fill := by
    obtain ⟨c2, r2, m2, q1, q2, q3, q4, -⟩ := Cond.selects_spec (a' (.selects cls Bundle.tFill Bundle.tFill) (by simp [Bundle.ownAtoms]))
    cases Option.some.inj (q1.symm.trans hfound)
    cases Option.some.inj (q2.symm.trans (State.methodFound?_of_named Y.fill (by decide)))
    cases Option.some.inj (q3.symm.trans Y.fill)
    rw [Launch.admits_selectMethod X.admits]; exact q4
  obtain ⟨cellS0, hcS0, hiss⟩ := Y.statics
  obtain ⟨u0, hu0⟩ := Cond.staticRefV Y.unassigned L.unassignedStatic L.statics hcS0 hiss (a' (.isRef (.static Bundle.tN "UNASSIGNED_STACK" Bundle.steD)) (by simp [Bundle.ownAtoms]))
  obtain ⟨sen, hsen⟩ := Cond.staticRefV Y.sentinel L.sentinelStatic L.statics hcS0 hiss (a' (.isRef (.static Bundle.tN "SUPPRESSED_SENTINEL" Bundle.listD)) (by simp [Bundle.ownAtoms]))
  obtain ⟨ci198, i198, fB, hk198, hg198, ha198, hsB, -, hnB, htB, hffB⟩ := Cond.ownField (t := .object "java/lang/Object") Y.found L.cls (by decide +kernel) (a' (.fieldLink Bundle.tN 198 Bundle.tN "backtrace" "Ljava/lang/Object;") (by simp [Bundle.ownAtoms])) (a' (.lays Bundle.tN Bundle.tN "backtrace" "Ljava/lang/Object;") (by simp [Bundle.ownAtoms])) e.platform hpl
  obtain ⟨cellS, hcS', heS, -, hkeep⟩ := X.same.2.2.2.2.2 T.aS cellS0 hcS0
  have hcellS : W.heap[T.aS]? = some cellS := hcS'
  have hout' : ∀ i, (⟨T.aS, i⟩ : Loc) ∉ locs := fun i hmem => by
    have := hlocs _ hmem cellS0 hcS0
    rw [hiss] at this; cases this
  have hknownS : cellS.vm ≠ .unknown := by
    rw [heS]; intro hu
    rw [show cellS0.vm = .unknown from hu] at hiss
    cases hiss
  have hneS : T.aS ≠ a := Nat.ne_of_lt (Nat.lt_of_lt_of_le (Array.getElem?_eq_some_iff.mp hcS0).1 hnew)
  obtain ⟨iM, hffM⟩ := Y.msg
  obtain ⟨tyC, dC, hdC, hdnC⟩ := Cond.laysAt hfound hk Y.cause (a' (.lays cls Bundle.tN "cause" "Ljava/lang/Throwable;") (by simp [Bundle.ownAtoms]))
  obtain ⟨tyS, dS, hdS, hdnS⟩ := Cond.laysAt hfound hk Y.stack (a' (.lays cls Bundle.tN "stackTrace" Bundle.steD) (by simp [Bundle.ownAtoms]))
  obtain ⟨tyP, dP, hdP, hdnP⟩ := Cond.laysAt hfound hk Y.supp (a' (.lays cls Bundle.tN "suppressedExceptions" Bundle.listD) (by simp [Bundle.ownAtoms]))
  obtain ⟨tyM, dM, hdM, hdnM⟩ := Cond.laysAt hfound hk hffM (a' (.lays cls Bundle.tN "detailMessage" "Ljava/lang/String;") (by simp [Bundle.ownAtoms]))
  obtain ⟨tyB, dB, hdB, hdnB⟩ := Cond.laysAt hfound hk hffB (a' (.lays cls Bundle.tN "backtrace" "Ljava/lang/Object;") (by simp [Bundle.ownAtoms]))
  have bC := Cond.laysApart hdB hdC hdnB hdnC (by rw [hnB, Y.causeName]; decide)
  have bS := Cond.laysApart hdB hdS hdnB hdnS (by rw [hnB, Y.stackName]; decide)
  have bP := Cond.laysApart hdB hdP hdnB hdnP (by rw [hnB, Y.suppName]; decide)
  have hskip : SkipFacts T e.platform s (fun u => u) u0 ((preparedCellV T.toThrowableT (freshCell P1.m.cls kX) a u0 sen).withEntry W.cur) :=
    ⟨{ ci198 := ci198, i198 := i198, fBack := fB }, ⟨hk198, hg198, ha198, hsB⟩, by
      have := fresh_default (c := P1.m.cls) tyB
      rw [htB] at this
      simpa [preparedCellV, Cell.setSlot, Cell.withEntry, Array.getElem?_setIfInBounds, bC, bS, bP, bC.symm, bS.symm, bP.symm, defaultValue] using this, fun _ _ => rfl⟩
  obtain ⟨tm, methC, cdC, kC, vm₁, hnC, -, -, -, -, -, -, -, hW₁, st1⟩ := Steps.initColdS (tb := p.tables) (e := e) (below := below) (s := s) (U := W) X.here hexec X.warmed hpl hown (t := Bundle.initS cls) rfl rfl (Bundle.fit_spec hcls).2
    (a' (.methodLink own ic (Bundle.initS cls)) (by simp [Bundle.ownAtoms])) (h (.instanceMethod (Bundle.initS cls)) (by cases names <;> simp [Bundle.ownAtoms, Bundle.chainSAtoms, Bundle.passSAtoms])) (bytes := Bundle.six) (maxL := 2) (h (.code (Bundle.initS cls) Bundle.six 2 none) (by cases names <;> simp [Bundle.ownAtoms, Bundle.chainSAtoms, Bundle.passSAtoms]))
    (f := g) hg (a := a) (msg := msg) (rest := .ref a :: rest) hstack hd6
  cases Option.some.inj (hnC.symm.trans hP1m)
  have X₁ := X.noted hW₁
  obtain ⟨vm₂, X₂, st2⟩ := X₁.ctorMessageOffV hexec (g := { g with stack := .ref a :: rest }) hg hsize T L Z LZ M LM (P1 :: Ps)
    (fun P hP => by rcases List.mem_cons.mp hP with rfl | hP; exact L1; exact hL P hP) ⟨hlink1, hlink⟩ (u0 := u0) (sen := sen) (self := a) hmsg (cell := freshCell P1.m.cls kX) (cellS := cellS)
    hcell (fun _ => by simp) (by simp) rfl rfl hsel0 hselF hcellS hneS hknownS (by rw [hkeep _ (hout' _)]; exact hu0) (by rw [hkeep _ (hout' _)]; exact hsen)
    (Takes.of_laid hk hord tyC (by rw [Y.causeType]; rfl)) (Takes.of_laid hk hord tyS (by rw [Y.stackType]; exact fits_refV_array _ u0)) (Takes.of_laid hk hord tyP (by rw [Y.suppType]; exact fits_refV_object _ sen))
    (Takes.of_laid hk hord tyM (by rw [Y.msgType]; exact fits_refV_object _ ⟨msg, hmsg⟩)) Y.objLocals hskip htr [] hd6
    (by simp only [List.length_cons, hlen]; omega) (by simp only [List.length_cons, hlen]; exact hRlocals)
  have hlt : a < ((W.setVm vm₁).setVm vm₂).heap.size := (Array.getElem?_eq_some_iff.mp hcell).1
  refine ⟨(W.setVm vm₁).setVm vm₂, _, _, X₂, fun y hy => ?_, hlt, rfl, rfl, fun target hwalk => st1 _ (fun acts => ?_)⟩
  · simp only [List.mem_cons, List.not_mem_nil, or_false] at hy
    rcases hy with rfl | rfl | rfl | rfl | rfl <;> rfl
  · rw [doInvoke_state]
    exact st2 _ hwalk
set_option maxHeartbeats 1000000 in
theorem vx_ctorMade0 (X : Stand p l e R s m₀ args below meth c W locs cells slots) (hexec : p.tables.exec = Jvm.exec) (htr : e.platform.stackTraces = false) {own cls : String} {names : List String} {ic : Nat}
    (hown : s.vm.findClass own = some m₀.cls) (hcls : Bundle.fit cls = true) (hnames : ∀ n ∈ names, Bundle.fit n = true)
    (h : ∀ a ∈ Bundle.ownAtoms0 own ic cls names, a.before args s = true)
    (hlocs : ∀ x ∈ locs, ∀ cell, s.heap[x.base]? = some cell → cell.vm.isStatics = false)
    {a : Addr} {cX : ClassId} {kX : Class} (hfoundX : s.vm.findClass cls = some cX) (hkX : s.vm.classes[cX]? = some kX) (hcell : W.heap[a]? = some (freshCell cX kX)) (hnew : s.heap.size ≤ a)
    {g : JFrame} (hg : g.method = m₀) (hsize : g.locals.size = c.maxLocals) {rest : List Value} (hstack : g.stack = .ref a :: .ref a :: rest)
    (hd6 : decode c.code g.pc = .ok (.invokespecial ic, 3))
    (hRframes : names.length + 3 < R.frames) (hRlocals : 2 * g.monitorRoom + ((Value.ref a :: rest).map fun v => v.category).sum + (13 * (names.length + 1) + 41) ≤ R.locals) :
    ∃ (V : State) (ce : Cell) (L : List Loc), Stand p l e R s m₀ args below meth c (V.setCell a ce) (locs ++ L) cells slots ∧ (∀ y ∈ L, y.base = a) ∧ a < V.heap.size ∧ ce.cls = cX ∧ ce.vm = .none ∧
      ∀ target, Steps p.tables e below ((V.setCell a ce).setTop { g with stack := .ref a :: rest, pc := g.pc + 3 }) target → Steps p.tables e below (W.setTop g) target := by
  have howns : e.platform.frameOwnsMonitors = true := by rw [X.admits.platform]
  have hfin : e.platform.finalization = false := by rw [X.admits.platform]
  have hpl : e.platform.magicAccessors = ({} : Platform).magicAccessors := by rw [X.admits.platform]
  have a' : ∀ x, x ∈ Bundle.ownAtoms0 own ic cls names → x.holds args s none s [] = true := fun x hx => h x hx
  obtain ⟨T, Z, L, LZ, Y⟩ := ThrowableC.of_atoms (args := args) howns hfin hpl (fun x hx => h x (by simp [Bundle.ownAtoms0, hx]))
  obtain ⟨P1, Ps, hlen, L1, hL, hP1m, hlink1, hlink⟩ := Bundle.chain0 (args := args) hpl Y.init0 names cls hcls hnames (fun x hx => h x (by simp [Bundle.ownAtoms0, hx]))
  have hfound : s.vm.findClass cls = some P1.m.cls := findClass_of_methodNamed hP1m
  cases Option.some.inj (hfoundX.symm.trans hfound)
  obtain ⟨c1, kX', hc1, hk, hord, -, -, hn6⟩ := Cond.instantiable_spec (a' (.instantiable cls 6) (by simp [Bundle.ownAtoms0]))
  cases Option.some.inj (hc1.symm.trans hfound)
  cases Option.some.inj (hkX.symm.trans hk)
  have hsel0 : selectMethod e.platform s.vm P1.m.cls T.fill0 = .method T.fill0 := by
    obtain ⟨c2, r2, m2, q1, q2, q3, q4, -⟩ := Cond.selects_spec (a' (.selects cls Bundle.tFill0 Bundle.tFill0) (by simp [Bundle.ownAtoms0]))
    cases Option.some.inj (q1.symm.trans hfound)
    cases Option.some.inj (q2.symm.trans (State.methodFound?_of_named Y.fill0 (by decide)))
    cases Option.some.inj (q3.symm.trans Y.fill0)
    rw [Launch.admits_selectMethod X.admits]; exact q4
  have hselF : selectMethod e.platform s.vm P1.m.cls T.fill = .method T.fill := by
    obtain ⟨c2, r2, m2, q1, q2, q3, q4, -⟩ := Cond.selects_spec (a' (.selects cls Bundle.tFill Bundle.tFill) (by simp [Bundle.ownAtoms0]))
    cases Option.some.inj (q1.symm.trans hfound)
    cases Option.some.inj (q2.symm.trans (State.methodFound?_of_named Y.fill (by decide)))
    cases Option.some.inj (q3.symm.trans Y.fill)
    rw [Launch.admits_selectMethod X.admits]; exact q4
  obtain ⟨cellS0, hcS0, hiss⟩ := Y.statics
  obtain ⟨u0, hu0⟩ := Cond.staticRefV Y.unassigned L.unassignedStatic L.statics hcS0 hiss (a' (.isRef (.static Bundle.tN "UNASSIGNED_STACK" Bundle.steD)) (by simp [Bundle.ownAtoms0]))
  obtain ⟨sen, hsen⟩ := Cond.staticRefV Y.sentinel L.sentinelStatic L.statics hcS0 hiss (a' (.isRef (.static Bundle.tN "SUPPRESSED_SENTINEL" Bundle.listD)) (by simp [Bundle.ownAtoms0]))
  obtain ⟨ci198, i198, fB, hk198, hg198, ha198, hsB, -, hnB, htB, hffB⟩ := Cond.ownField (t := .object "java/lang/Object") Y.found L.cls (by decide +kernel) (a' (.fieldLink Bundle.tN 198 Bundle.tN "backtrace" "Ljava/lang/Object;") (by simp [Bundle.ownAtoms0])) (a' (.lays Bundle.tN Bundle.tN "backtrace" "Ljava/lang/Object;") (by simp [Bundle.ownAtoms0])) e.platform hpl
  obtain ⟨cellS, hcS', heS, -, hkeep⟩ := X.same.2.2.2.2.2 T.aS cellS0 hcS0
  have hcellS : W.heap[T.aS]? = some cellS := hcS'
  have hout' : ∀ i, (⟨T.aS, i⟩ : Loc) ∉ locs := fun i hmem => by
    have := hlocs _ hmem cellS0 hcS0
    rw [hiss] at this; cases this
  have hknownS : cellS.vm ≠ .unknown := by
    rw [heS]; intro hu
    rw [show cellS0.vm = .unknown from hu] at hiss
    cases hiss
  have hneS : T.aS ≠ a := Nat.ne_of_lt (Nat.lt_of_lt_of_le (Array.getElem?_eq_some_iff.mp hcS0).1 hnew)
  obtain ⟨iM, hffM⟩ := Y.msg
  obtain ⟨tyC, dC, hdC, hdnC⟩ := Cond.laysAt hfound hk Y.cause (a' (.lays cls Bundle.tN "cause" "Ljava/lang/Throwable;") (by simp [Bundle.ownAtoms0]))
  obtain ⟨tyS, dS, hdS, hdnS⟩ := Cond.laysAt hfound hk Y.stack (a' (.lays cls Bundle.tN "stackTrace" Bundle.steD) (by simp [Bundle.ownAtoms0]))
  obtain ⟨tyP, dP, hdP, hdnP⟩ := Cond.laysAt hfound hk Y.supp (a' (.lays cls Bundle.tN "suppressedExceptions" Bundle.listD) (by simp [Bundle.ownAtoms0]))
  obtain ⟨tyM, dM, hdM, hdnM⟩ := Cond.laysAt hfound hk hffM (a' (.lays cls Bundle.tN "detailMessage" "Ljava/lang/String;") (by simp [Bundle.ownAtoms0]))
  obtain ⟨tyB, dB, hdB, hdnB⟩ := Cond.laysAt hfound hk hffB (a' (.lays cls Bundle.tN "backtrace" "Ljava/lang/Object;") (by simp [Bundle.ownAtoms0]))
  have bC := Cond.laysApart hdB hdC hdnB hdnC (by rw [hnB, Y.causeName]; decide)
  have bS := Cond.laysApart hdB hdS hdnB hdnS (by rw [hnB, Y.stackName]; decide)
  have bP := Cond.laysApart hdB hdP hdnB hdnP (by rw [hnB, Y.suppName]; decide)
  have hskip : SkipFacts T e.platform s (fun u => u) u0 ((preparedCellV T.toThrowableT (freshCell P1.m.cls kX) a u0 sen).withEntry W.cur) :=
    ⟨{ ci198 := ci198, i198 := i198, fBack := fB }, ⟨hk198, hg198, ha198, hsB⟩, by
      have := fresh_default (c := P1.m.cls) tyB
      rw [htB] at this
      simpa [preparedCellV, Cell.setSlot, Cell.withEntry, Array.getElem?_setIfInBounds, bC, bS, bP, bC.symm, bS.symm, bP.symm, defaultValue] using this, fun _ _ => rfl⟩
  obtain ⟨tm, methC, cdC, kC, vm₁, hnC, -, -, -, -, -, -, -, hW₁, st1⟩ := Steps.initCold (tb := p.tables) (e := e) (below := below) (s := s) (U := W) X.here hexec X.warmed hpl hown (t := Bundle.init0 cls) rfl rfl (Bundle.fit_spec hcls).2
    (a' (.methodLink own ic (Bundle.init0 cls)) (by simp [Bundle.ownAtoms0])) (h (.instanceMethod (Bundle.init0 cls)) (by cases names <;> simp [Bundle.ownAtoms0, Bundle.chain0Atoms, Bundle.passAtoms])) (bytes := Bundle.five) (maxL := 1) (h (.code (Bundle.init0 cls) Bundle.five 1 none) (by cases names <;> simp [Bundle.ownAtoms0, Bundle.chain0Atoms, Bundle.passAtoms]))
    (f := g) hg (a := a) (rest := .ref a :: rest) hstack hd6
  cases Option.some.inj (hnC.symm.trans hP1m)
  have X₁ := X.noted hW₁
  obtain ⟨vm₂, X₂, st2⟩ := X₁.ctorPlainOffV hexec (g := { g with stack := .ref a :: rest }) hg hsize T L Z LZ (P1 :: Ps)
    (fun P hP => by rcases List.mem_cons.mp hP with rfl | hP; exact L1; exact hL P hP) ⟨hlink1, hlink⟩ (u0 := u0) (sen := sen) (self := a) (cell := freshCell P1.m.cls kX) (cellS := cellS)
    hcell (fun _ => by simp) (by simp) rfl rfl hsel0 hselF hcellS hneS hknownS (by rw [hkeep _ (hout' _)]; exact hu0) (by rw [hkeep _ (hout' _)]; exact hsen)
    (Takes.of_laid hk hord tyC (by rw [Y.causeType]; rfl)) (Takes.of_laid hk hord tyS (by rw [Y.stackType]; exact fits_refV_array _ u0)) (Takes.of_laid hk hord tyP (by rw [Y.suppType]; exact fits_refV_object _ sen)) Y.objLocals hskip htr [] hd6
    (by simp only [List.length_cons, hlen]; omega) (by simp only [List.length_cons, hlen]; exact hRlocals)
  have hlt : a < ((W.setVm vm₁).setVm vm₂).heap.size := (Array.getElem?_eq_some_iff.mp hcell).1
  refine ⟨(W.setVm vm₁).setVm vm₂, _, _, X₂, fun y hy => ?_, hlt, rfl, rfl, fun target hwalk => st1 _ (fun acts => ?_)⟩
  · simp only [List.mem_cons, List.not_mem_nil, or_false] at hy
    rcases hy with rfl | rfl | rfl | rfl <;> rfl
  · rw [doInvoke_state]
    exact st2 _ hwalk
end VXK
section VXK2
variable {p : Program} {l : Launch} {e : Env} {R : Room} {s : State} {m : MethodId} {args : Array Value} {below : List Frame} {meth : Method} {c : Code} {H : Heap} {locs : List Loc} {cells slots : Nat} {Q : State → Prop}
variable {ls : Array Slot} {rest : List Value} {D : va_G} {cl : List vw_C} {tys : List (ClassId × FieldType)} {ws : va_W}
/-- 'new E("text")' that isn't thrown at once: the object goes on the stack -/
theorem vx_makeS {cc : ByteArray} {pc : Nat} (hexec : p.tables.exec = Jvm.exec) (hb : c.code = cc) (hl : l.stackTraces = false) {own cls text : String} {names : List String} {ik is ic sa ci : Nat} {A : Nat → Prop} {T0 : u_T}
    (hown : s.vm.findClass own = some m.cls) (hcls : Bundle.fit cls = true) (hnames : ∀ n ∈ names, Bundle.fit n = true)
    (hk : (Cond.classLink own ik cls).before args s = true) (hini : (Cond.initialized cls).before args s = true) (hstr : vk_R own is text sa s) (hat : ∀ w ∈ vx_atS own ic cls names, w.before args s = true)
    (hgood : ∀ w ∈ Cond.classLink own ik cls :: Cond.initialized cls :: vx_atS own ic cls names, vx_ot w = true)
    (hU : vx_Zq Bundle.tN "UNASSIGNED_STACK" Bundle.steD A s s.heap) (hN : vx_Zq Bundle.tN "SUPPRESSED_SENTINEL" Bundle.listD A s s.heap) (hS : va_S A s.heap H locs) (hsize : ls.size = c.maxLocals)
    (d0 : decode cc pc = .ok (.new ik, 3)) (d3 : decode cc (pc + 3) = .ok (.dup, 1)) (d4 : decode cc (pc + 4) = .ok (.ldc is, 2)) (d6 : decode cc (pc + 6) = .ok (.invokespecial ic, 3))
    (hK : va_K D cl tys s) (hP : va_P D cl ws H) (hD : va_D A ws) (hA : ∀ q, s.heap.size ≤ q → A q) (hc : cl[ci]? = some (cls, T0, 0))
    (hRframes : names.length + 3 < R.frames) (hRlocals : (rest.map fun v => v.category).sum + (13 * (names.length + 1) + 43) ≤ R.locals) (hRcells : cells + 1 ≤ R.cells) (hRslots : slots + 6 ≤ R.slots)
    (kk : ∀ (q : Nat) (H1 : Heap), va_P D cl (ws ++ [(q, .inr (ci, []))]) H1 → va_D A (ws ++ [(q, .inr (ci, []))]) → va_S A s.heap H1 locs → W p l e R s m args below meth c H1 locs (cells + 1) (slots + 6) Q (F0 m (pc + 9) ls (.ref q :: rest))) :
    W p l e R s m args below meth c H locs cells slots Q (F0 m pc ls rest) := by
  intro T hT X
  subst hT
  have htr : e.platform.stackTraces = false := (show e.platform.stackTraces = l.stackTraces by rw [X.admits.platform]).trans hl
  have Y := vx_rebase X (R' := { frames := R.frames, locals := R.locals, cells := 1, slots := 6 }) (Nat.le_refl _) (Nat.le_refl _) hRcells hRslots
  obtain ⟨s', hA'⟩ : ∃ z, z = (T.setVm s.vm).setFrames (.invoking m args :: below) := ⟨_, rfl⟩
  rw [← hA'] at Y
  have hvm : s'.vm = s.vm := by rw [hA']; rfl
  have hhp : s'.heap = T.heap := by rw [hA']; rfl
  have hW0 : s.WarmedH s'.vm := by rw [hvm]; exact State.WarmedH.refl s
  have hat' : ∀ w ∈ vx_atS own ic cls names, w.before args s' = true := fun w hw => vx_ot_at hW0 hvm.symm (hgood w (List.mem_cons_of_mem _ (List.mem_cons_of_mem _ hw))) (hat w hw)
  have hk' : (Cond.classLink own ik cls).before args s' = true := vx_ot_at hW0 hvm.symm (hgood _ List.mem_cons_self) hk
  have hini' : (Cond.initialized cls).before args s' = true := vx_ot_at hW0 hvm.symm (hgood _ (List.mem_cons_of_mem _ List.mem_cons_self)) hini
  have hU' : vx_Zq Bundle.tN "UNASSIGNED_STACK" Bundle.steD A s' s'.heap := by rw [hhp]; exact vx_Zq.moved hW0.alike (hU.kept hS.2.1)
  have hN' : vx_Zq Bundle.tN "SUPPRESSED_SENTINEL" Bundle.listD A s' s'.heap := by rw [hhp]; exact vx_Zq.moved hW0.alike (hN.kept hS.2.1)
  have h : ∀ w ∈ Bundle.ownAtoms own ic cls names, w.before args s' = true := vx_own hat' (vx_isRefq hU'.1) (vx_isRefq hN'.1) hU'.2.word hN'.2.word
  have hown' : s'.vm.findClass own = some m.cls := by rw [hvm]; exact hown
  have hins : (Cond.instantiable cls 6).before args s' = true := h _ (by simp [Bundle.ownAtoms])
  obtain ⟨vm₁, cX, kX, hfX, hkX, -, -, X₁, st1⟩ := Y.newCold hexec (own := own) (C := cls) (index := ik) (n := 6) hown' hk' hins hini'
    (g := F0 m pc ls rest) rfl (by rw [hb]; exact d0) (Nat.le_refl _) (Nat.le_refl _)
  generalize hT1 : (T.setVm vm₁).pushCell { cls := cX, slots := kX.instanceTypes.map defaultValue, vm := .none } = T1 at X₁ st1
  have hcat : (Value.ref T.heap.size).category = 1 := rfl
  have hcellA : T1.heap[T.heap.size]? = some (freshCell cX kX) := by rw [← hT1]; exact State.heap_pushCell_size _ _
  have d3' : decode c.code (pc + 3) = .ok (.dup, 1) := by rw [hb]; exact d3
  have d4' : decode c.code (pc + 4) = .ok (.ldc is, 2) := by rw [hb]; exact d4
  have hstr' : vk_R own is text sa s' := vk_R.warm hW0 hstr
  obtain ⟨V, ce, L, Z, hL, hlt, hcl9, hvm9, st⟩ := vx_ctorMadeS X₁ hexec htr (own := own) (cls := cls) (names := names) (ic := ic) hown' hcls hnames h (fun x hx => nomatch hx) hfX hkX hcellA (by rw [hhp]; exact Nat.le_refl _) (msg := .ref sa) rfl
    (g := { method := m, pc := pc + 6, locals := ls, stack := .ref sa :: .ref T.heap.size :: .ref T.heap.size :: rest, locked := none }) rfl hsize (rest := rest) rfl
    (by rw [hb]; exact d6) hRframes (by simp only [List.map_cons, List.sum_cons, hcat]; omega)
  have Z0 := Stand.forget (locs := []) Z (fun y hy => by rw [hL y hy, hhp]; exact Nat.le_refl _)
  obtain ⟨f1, f2⟩ := vx_frame Z0.same
  rw [hhp] at f1 f2
  have hcid : ce.cls = D.1 ci := by
    rw [hcl9]
    have h1 := (hK.1 ci _ hc).2.1
    rw [hvm] at hfX
    exact Option.some.inj (hfX.symm.trans h1)
  have hh : (V.setCell T.heap.size ce).heap[T.heap.size]? = some ce := heapAt_setCell_self (s := V) ce hlt
  subst hA'
  have X5 := vx_back9 X Y Z0
  have X6 : Stand p l e R s m args below meth c (V.setCell T.heap.size ce) locs (cells + 1) (slots + 6) := { X5 with same := X5.same.mono (by omega) (by omega) }
  have hk9 : ∀ (k : Nat) (x : Nat × va_E), ws[k]? = some x → (V.setCell T.heap.size ce).heap[x.1]? = T.heap[x.1]? := fun k x hx => f2 x.1 ((hP k x hx).lt) (fun z hz => nomatch hz)
  obtain ⟨t, a1, b1⟩ := kk T.heap.size (V.setCell T.heap.size ce).heap ((hP.kept hk9).app (fun k x hx => by
      have hz : k < 1 := (List.getElem?_eq_some_iff.mp hx).1
      rw [show k = 0 by omega] at hx
      cases hx
      exact ⟨_, hc, ce, hh, hcid, hvm9, fun k hk => absurd hk (Nat.not_lt_zero k)⟩)) (hD.push hP rfl (hA _ hS.1)) ⟨Nat.le_trans hS.1 f1, fun q h1 h2 => (f2 q (Nat.lt_of_lt_of_le h1 hS.1) (fun z hz => nomatch hz)).trans (hS.2.1 q h1 h2), hS.2.2⟩ _ rfl X6
  refine ⟨t, st1 _ ?_, b1⟩
  show Steps p.tables e below (T1.setTop { method := m, pc := pc + 3, locals := ls, stack := .ref T.heap.size :: rest, locked := none }) _
  jvm_step X₁.here [X₁.here.top, hexec, d3', Value.category]
  exact X₁.ldcString hexec (own := own) (text := text) (index := is) (a := sa) hown' hstr'.1 hstr'.2
    (g := { method := m, pc := pc + 4, locals := ls, stack := .ref T.heap.size :: .ref T.heap.size :: rest, locked := none }) rfl d4' _ (st _ a1)
/-- 'new E()' that isn't thrown at once: the object goes on the stack -/
theorem vx_make0 {cc : ByteArray} {pc : Nat} (hexec : p.tables.exec = Jvm.exec) (hb : c.code = cc) (hl : l.stackTraces = false) {own cls : String} {names : List String} {ik ic ci : Nat} {A : Nat → Prop} {T0 : u_T}
    (hown : s.vm.findClass own = some m.cls) (hcls : Bundle.fit cls = true) (hnames : ∀ n ∈ names, Bundle.fit n = true)
    (hk : (Cond.classLink own ik cls).before args s = true) (hini : (Cond.initialized cls).before args s = true) (hat : ∀ w ∈ vx_at0 own ic cls names, w.before args s = true)
    (hgood : ∀ w ∈ Cond.classLink own ik cls :: Cond.initialized cls :: vx_at0 own ic cls names, vx_ot w = true)
    (hU : vx_Zq Bundle.tN "UNASSIGNED_STACK" Bundle.steD A s s.heap) (hN : vx_Zq Bundle.tN "SUPPRESSED_SENTINEL" Bundle.listD A s s.heap) (hS : va_S A s.heap H locs) (hsize : ls.size = c.maxLocals)
    (d0 : decode cc pc = .ok (.new ik, 3)) (d3 : decode cc (pc + 3) = .ok (.dup, 1)) (d4 : decode cc (pc + 4) = .ok (.invokespecial ic, 3))
    (hK : va_K D cl tys s) (hP : va_P D cl ws H) (hD : va_D A ws) (hA : ∀ q, s.heap.size ≤ q → A q) (hc : cl[ci]? = some (cls, T0, 0))
    (hRframes : names.length + 3 < R.frames) (hRlocals : (rest.map fun v => v.category).sum + (13 * (names.length + 1) + 42) ≤ R.locals) (hRcells : cells + 1 ≤ R.cells) (hRslots : slots + 6 ≤ R.slots)
    (kk : ∀ (q : Nat) (H1 : Heap), va_P D cl (ws ++ [(q, .inr (ci, []))]) H1 → va_D A (ws ++ [(q, .inr (ci, []))]) → va_S A s.heap H1 locs → W p l e R s m args below meth c H1 locs (cells + 1) (slots + 6) Q (F0 m (pc + 7) ls (.ref q :: rest))) :
    W p l e R s m args below meth c H locs cells slots Q (F0 m pc ls rest) := by
  intro T hT X
  subst hT
  have htr : e.platform.stackTraces = false := (show e.platform.stackTraces = l.stackTraces by rw [X.admits.platform]).trans hl
  have Y := vx_rebase X (R' := { frames := R.frames, locals := R.locals, cells := 1, slots := 6 }) (Nat.le_refl _) (Nat.le_refl _) hRcells hRslots
  obtain ⟨s', hA'⟩ : ∃ z, z = (T.setVm s.vm).setFrames (.invoking m args :: below) := ⟨_, rfl⟩
  rw [← hA'] at Y
  have hvm : s'.vm = s.vm := by rw [hA']; rfl
  have hhp : s'.heap = T.heap := by rw [hA']; rfl
  have hW0 : s.WarmedH s'.vm := by rw [hvm]; exact State.WarmedH.refl s
  have hat' : ∀ w ∈ vx_at0 own ic cls names, w.before args s' = true := fun w hw => vx_ot_at hW0 hvm.symm (hgood w (List.mem_cons_of_mem _ (List.mem_cons_of_mem _ hw))) (hat w hw)
  have hk' : (Cond.classLink own ik cls).before args s' = true := vx_ot_at hW0 hvm.symm (hgood _ List.mem_cons_self) hk
  have hini' : (Cond.initialized cls).before args s' = true := vx_ot_at hW0 hvm.symm (hgood _ (List.mem_cons_of_mem _ List.mem_cons_self)) hini
  have hU' : vx_Zq Bundle.tN "UNASSIGNED_STACK" Bundle.steD A s' s'.heap := by rw [hhp]; exact vx_Zq.moved hW0.alike (hU.kept hS.2.1)
  have hN' : vx_Zq Bundle.tN "SUPPRESSED_SENTINEL" Bundle.listD A s' s'.heap := by rw [hhp]; exact vx_Zq.moved hW0.alike (hN.kept hS.2.1)
  have h : ∀ w ∈ Bundle.ownAtoms0 own ic cls names, w.before args s' = true := vx_own hat' (vx_isRefq hU'.1) (vx_isRefq hN'.1) hU'.2.word hN'.2.word
  have hown' : s'.vm.findClass own = some m.cls := by rw [hvm]; exact hown
  have hins : (Cond.instantiable cls 6).before args s' = true := h _ (by simp [Bundle.ownAtoms0])
  obtain ⟨vm₁, cX, kX, hfX, hkX, -, -, X₁, st1⟩ := Y.newCold hexec (own := own) (C := cls) (index := ik) (n := 6) hown' hk' hins hini'
    (g := F0 m pc ls rest) rfl (by rw [hb]; exact d0) (Nat.le_refl _) (Nat.le_refl _)
  generalize hT1 : (T.setVm vm₁).pushCell { cls := cX, slots := kX.instanceTypes.map defaultValue, vm := .none } = T1 at X₁ st1
  have hcat : (Value.ref T.heap.size).category = 1 := rfl
  have hcellA : T1.heap[T.heap.size]? = some (freshCell cX kX) := by rw [← hT1]; exact State.heap_pushCell_size _ _
  have d3' : decode c.code (pc + 3) = .ok (.dup, 1) := by rw [hb]; exact d3
  obtain ⟨V, ce, L, Z, hL, hlt, hcl9, hvm9, st⟩ := vx_ctorMade0 X₁ hexec htr (own := own) (cls := cls) (names := names) (ic := ic) hown' hcls hnames h (fun x hx => nomatch hx) hfX hkX hcellA (by rw [hhp]; exact Nat.le_refl _)
    (g := { method := m, pc := pc + 4, locals := ls, stack := .ref T.heap.size :: .ref T.heap.size :: rest, locked := none }) rfl hsize (rest := rest) rfl
    (by rw [hb]; exact d4) hRframes (by simp only [List.map_cons, List.sum_cons, hcat]; omega)
  have Z0 := Stand.forget (locs := []) Z (fun y hy => by rw [hL y hy, hhp]; exact Nat.le_refl _)
  obtain ⟨f1, f2⟩ := vx_frame Z0.same
  rw [hhp] at f1 f2
  have hcid : ce.cls = D.1 ci := by
    rw [hcl9]
    have h1 := (hK.1 ci _ hc).2.1
    rw [hvm] at hfX
    exact Option.some.inj (hfX.symm.trans h1)
  have hh : (V.setCell T.heap.size ce).heap[T.heap.size]? = some ce := heapAt_setCell_self (s := V) ce hlt
  subst hA'
  have X5 := vx_back9 X Y Z0
  have X6 : Stand p l e R s m args below meth c (V.setCell T.heap.size ce) locs (cells + 1) (slots + 6) := { X5 with same := X5.same.mono (by omega) (by omega) }
  have hk9 : ∀ (k : Nat) (x : Nat × va_E), ws[k]? = some x → (V.setCell T.heap.size ce).heap[x.1]? = T.heap[x.1]? := fun k x hx => f2 x.1 ((hP k x hx).lt) (fun z hz => nomatch hz)
  obtain ⟨t, a1, b1⟩ := kk T.heap.size (V.setCell T.heap.size ce).heap ((hP.kept hk9).app (fun k x hx => by
      have hz : k < 1 := (List.getElem?_eq_some_iff.mp hx).1
      rw [show k = 0 by omega] at hx
      cases hx
      exact ⟨_, hc, ce, hh, hcid, hvm9, fun k hk => absurd hk (Nat.not_lt_zero k)⟩)) (hD.push hP rfl (hA _ hS.1)) ⟨Nat.le_trans hS.1 f1, fun q h1 h2 => (f2 q (Nat.lt_of_lt_of_le h1 hS.1) (fun z hz => nomatch hz)).trans (hS.2.1 q h1 h2), hS.2.2⟩ _ rfl X6
  refine ⟨t, st1 _ ?_, b1⟩
  show Steps p.tables e below (T1.setTop { method := m, pc := pc + 3, locals := ls, stack := .ref T.heap.size :: rest, locked := none }) _
  jvm_step X₁.here [X₁.here.top, hexec, d3', Value.category]
  exact st _ a1
/-- 'throw x' of an object that was made before -/
theorem vx_athrow {cc : ByteArray} {pc : Nat} (hexec : p.tables.exec = Jvm.exec) (hb : c.code = cc) {q : Addr} (hdg : decode cc pc = .ok (.athrow, 1)) (k : vx_W p l e R s m args below meth c H locs cells slots Q (F0 m pc ls rest) q) : W p l e R s m args below meth c H locs cells slots Q (F0 m pc ls (.ref q :: rest)) := by
  intro T hT X
  obtain ⟨t, st, hq⟩ := k T hT X
  refine ⟨t, ?_, hq⟩
  have hdg' : decode c.code pc = .ok (.athrow, 1) := by rw [hb]; exact hdg
  jvm_step X.here [X.here.top, hexec, hdg', athrow.wp_sem]
  exact st
end VXK2
/-! ===== END ===== -/
/-! ===== BEGIN a constructor that throws (launches without stack traces) ===== -/
section VXIA
variable {p : Program} {l : Launch} {e : Env} {R : Room} {s : State} {m : MethodId} {args : Array Value} {below : List Frame} {meth : Method} {c : Code} {T : State} {locs : List Loc} {cells slots : Nat}
theorem vx_callI (X : Stand p l e R s m args below meth c T locs cells slots) (hexec : p.tables.exec = Jvm.exec) {own : String} {index : Nat} {y : MethodName} {bytes : ByteArray} {maxL : Nat}
    (hown : s.vm.findClass own = some m.cls) (hy1 : y.name = "<init>") (hlink : (Cond.methodLink own index y).before args s = true) (hinst : (Cond.instanceMethod y).before args s = true)
    (hcode : (Cond.code y bytes maxL none).before args s = true) (hy : y.cls ≠ "java/lang/invoke/MethodHandle" ∧ y.cls ≠ "java/lang/invoke/VarHandle")
    {W9 : Nat} {Pre : Pt → Array Value → Prop} {Post : Pt → Array Value → Option Value → Pt → Prop} {PostX : Pt → Array Value → Addr → Pt → Prop} (hK : vx_Back l R p e below s args y 3 W9 Pre Post PostX)
    {g : JFrame} (hg : g.method = m) (hsize : g.locals.size = c.maxLocals) {a : Addr} {argsL rest : List Value} (hlen : ∀ sig, parseMethodDescriptor y.desc = some sig → argsL.length = sig.parameters.length)
    (hstack : g.stack = argsL.reverse ++ .ref a :: rest) (hW : 2 * g.monitorRoom + (rest.map fun v => v.category).sum ≤ W9) (hdg : decode c.code g.pc = .ok (.invokespecial index, 3))
    (hpre : ∀ vm₁, s.WarmedH vm₁ → Pre ⟨T.setVm vm₁, locs, cells, slots⟩ (Value.ref a :: argsL).toArray) :
    (∃ (v : Option Value) (vm₁ : Vm) (B : Pt), s.WarmedH vm₁ ∧ Stand p l e R s m args below meth c B.U B.locs B.cells B.slots ∧ Post ⟨T.setVm vm₁, locs, cells, slots⟩ (Value.ref a :: argsL).toArray v B ∧
      ∀ target, Steps p.tables e below (B.U.setTop { g with pc := g.pc + 3, stack := v.toList ++ rest }) target → Steps p.tables e below (T.setTop g) target) ∨
    (∃ (q : Addr) (vm₁ : Vm) (B : Pt), s.WarmedH vm₁ ∧ Stand p l e R s m args below meth c B.U B.locs B.cells B.slots ∧ PostX ⟨T.setVm vm₁, locs, cells, slots⟩ (Value.ref a :: argsL).toArray q B ∧
      Steps p.tables e below (T.setTop g) ((B.U.setTop { g with stack := rest }).pushFrame (.throwing q))) := by
  subst hg
  have hpl : e.platform.magicAccessors = ({} : Platform).magicAccessors := by rw [X.admits.platform]
  obtain ⟨mk, methM, cM, kP, vm₁, hnamed, hmethM, hcodeM, -, hlocalsM, -, hkP, -, hW₁, hstep₁⟩ := Steps.initColdArgs (e := e) X.here hexec X.warmed hpl hown hy1 hy hlink hinst hcode (f := g) rfl hlen hstack hdg
  have X₁ := X.noted hW₁
  rcases hK g.method meth c ⟨T.setVm vm₁, locs, cells, slots⟩ { g with stack := rest } (.invokespecial index) mk (Value.ref a :: argsL).toArray X₁ rfl hsize hdg hW (X₁.named hnamed) (hpre vm₁ X₁.warmed) with ⟨v, B, X', hpost, hsteps⟩ | ⟨q, B, X', hpost, hsteps⟩
  · exact Or.inl ⟨v, vm₁, B, X₁.warmed, X', hpost, fun target h => hstep₁ _ fun acts => by rw [doInvoke_state]; exact hsteps.trans h⟩
  · exact Or.inr ⟨q, vm₁, B, X₁.warmed, X', hpost, hstep₁ _ fun acts => by rw [doInvoke_state]; exact hsteps⟩
end VXIA
section VXIB
variable {p : Program} {l : Launch} {e : Env} {R : Room} {s : State} {m : MethodId} {args : Array Value} {below : List Frame} {meth : Method} {c : Code} {H : Heap} {locs : List Loc} {cells slots : Nat}
variable {y : MethodName} {bytes cc : ByteArray} {maxL nL mc ms n index : Nat} {ret : Option FieldType} {ws : List Cond} {rm : Room} {Pc : Array Value → State → Prop} {Qc : Array Value → State → Outcome → State → Prop} {XC : String → State → State → Prop} {free : Addr → Prop} {Ts : List Cond} {own C : String} {b : Addr} {As rest : List Value} {g : JFrame}
theorem vx_runI (S : CallFix p m c cc nL s args Ts own) (hM : vx_Met l y ws rm Pc Qc XC mc ms free) (cw : CallB R s args own index y bytes maxL none ws rm mc ms n ∧ y.name = "<init>" ∧ (Cond.instanceMethod y).before args s = true) (hp : PreS s H Pc (.ref b :: As))
    (hg : g.method = m) (hn : As.length = n) (hsize : g.locals.size = nL) (hstack : g.stack = As.reverse ++ .ref b :: rest) (hW : 2 * g.monitorRoom + (rest.map fun v => v.category).sum ≤ 8) (hdg : decode cc g.pc = .ok (.invokespecial index, 3)) (hf : cells + mc ≤ R.cells ∧ slots + ms ≤ R.slots) :
    vx_Run p l e R s m args below meth c H locs cells slots mc ms g rest (Qc (Value.ref b :: As).toArray) XC free := by
  have hK : vx_Back l R p e below s args y 3 8 (PreOf R mc ms Pc) (PostOf Qc mc ms free) (vx_Post XC mc ms free) := vx_callBack cw.1 hM hp.1
  obtain ⟨⟨-, -, -, -, -, -, hcode, -, hy, hlen, hl⟩, hy1, hin⟩ := cw
  obtain ⟨hx, hb, hml, ho, -⟩ := S
  have hPc := hp.2
  intro T hT X
  rcases vx_callI X hx (bytes := bytes) (maxL := maxL) ho hy1 hl hin hcode hy hK hg (hsize.trans hml.symm) (a := b) (argsL := As) (rest := rest) (fun sig h => hn.trans (hlen sig h)) hstack hW (by rw [hb]; exact hdg)
    (fun vm₁ hW₁ => ⟨hf.1, hf.2, hPc (T.setVm vm₁) hT hW₁⟩) with ⟨v, vm₁, ⟨U', l2, c2, s2⟩, hW₁, X', ⟨g', mk, t, L, e1, e2, hq, h1, hL, h2, h3⟩, st⟩ | ⟨q, vm₁, ⟨U', l2, c2, s2⟩, hW₁, X', ⟨g', mk, t, L, E, ce, e1, e2, hq, hce, hcv, hcl, h1, hL, h2, h3⟩, st⟩
  · dsimp only [Pt.U, Pt.locs, Pt.cells, Pt.slots] at X' e1 e2 h1 h2 h3 st
    subst h1; subst h2; subst h3
    exact Or.inl ⟨v, (T.setVm vm₁).calling g' mk (Value.ref b :: As).toArray, t, U', L, hT, X', hL, e1, e2, hq, st⟩
  · dsimp only [Pt.U, Pt.locs, Pt.cells, Pt.slots] at X' e1 e2 h1 h2 h3 st hcl
    subst h1; subst h2; subst h3
    exact Or.inr ⟨q, (T.setVm vm₁).calling g' mk (Value.ref b :: As).toArray, t, U', L, E, ce, hT, X', hL, e1, e2, hq, hce, hcv, vx_cls hW₁ hcl, st⟩
end VXIB
/-! ===== END ===== -/
/-! ===== BEGIN a private constructor of a nest mate that throws ===== -/
section VXIC
variable {p : Program} {l : Launch} {e : Env} {R : Room} {s : State} {m : MethodId} {args : Array Value} {below : List Frame} {meth : Method} {c : Code} {T : State} {locs : List Loc} {cells slots : Nat}
theorem vx_callIN (X : Stand p l e R s m args below meth c T locs cells slots) (hexec : p.tables.exec = Jvm.exec) {own : String} {index : Nat} {host : String} {y : MethodName} {bytes : ByteArray} {maxL : Nat}
    (hown : s.vm.findClass own = some m.cls) (hy1 : y.name = "<init>") (hlink : (Cond.methodLinkNest own index y host).before args s = true) (hinst : (Cond.instanceMethod y).before args s = true)
    (hcode : (Cond.code y bytes maxL none).before args s = true) (hy : y.cls ≠ "java/lang/invoke/MethodHandle" ∧ y.cls ≠ "java/lang/invoke/VarHandle")
    {W9 : Nat} {Pre : Pt → Array Value → Prop} {Post : Pt → Array Value → Option Value → Pt → Prop} {PostX : Pt → Array Value → Addr → Pt → Prop} (hK : vx_Back l R p e below s args y 3 W9 Pre Post PostX)
    {g : JFrame} (hg : g.method = m) (hsize : g.locals.size = c.maxLocals) {a : Addr} {argsL rest : List Value} (hlen : ∀ sig, parseMethodDescriptor y.desc = some sig → argsL.length = sig.parameters.length)
    (hstack : g.stack = argsL.reverse ++ .ref a :: rest) (hW : 2 * g.monitorRoom + (rest.map fun v => v.category).sum ≤ W9) (hdg : decode c.code g.pc = .ok (.invokespecial index, 3))
    (hpre : ∀ vm₁, s.WarmedH vm₁ → Pre ⟨T.setVm vm₁, locs, cells, slots⟩ (Value.ref a :: argsL).toArray) :
    (∃ (v : Option Value) (vm₁ : Vm) (B : Pt), s.WarmedH vm₁ ∧ Stand p l e R s m args below meth c B.U B.locs B.cells B.slots ∧ Post ⟨T.setVm vm₁, locs, cells, slots⟩ (Value.ref a :: argsL).toArray v B ∧
      ∀ target, Steps p.tables e below (B.U.setTop { g with pc := g.pc + 3, stack := v.toList ++ rest }) target → Steps p.tables e below (T.setTop g) target) ∨
    (∃ (q : Addr) (vm₁ : Vm) (B : Pt), s.WarmedH vm₁ ∧ Stand p l e R s m args below meth c B.U B.locs B.cells B.slots ∧ PostX ⟨T.setVm vm₁, locs, cells, slots⟩ (Value.ref a :: argsL).toArray q B ∧
      Steps p.tables e below (T.setTop g) ((B.U.setTop { g with stack := rest }).pushFrame (.throwing q))) := by
  subst hg
  have hpl : e.platform.magicAccessors = ({} : Platform).magicAccessors := by rw [X.admits.platform]
  obtain ⟨mk, methM, cM, kP, vm₁, hnamed, hmethM, hcodeM, -, hlocalsM, -, hkP, -, hW₁, hstep₁⟩ := Steps.initColdArgsNest (e := e) X.here hexec X.warmed hpl hown hy1 hy hlink hinst hcode (f := g) rfl hlen hstack hdg
  have X₁ := X.noted hW₁
  rcases hK g.method meth c ⟨T.setVm vm₁, locs, cells, slots⟩ { g with stack := rest } (.invokespecial index) mk (Value.ref a :: argsL).toArray X₁ rfl hsize hdg hW (X₁.named hnamed) (hpre vm₁ X₁.warmed) with ⟨v, B, X', hpost, hsteps⟩ | ⟨q, B, X', hpost, hsteps⟩
  · exact Or.inl ⟨v, vm₁, B, X₁.warmed, X', hpost, fun target h => hstep₁ _ fun acts => by rw [doInvoke_state]; exact hsteps.trans h⟩
  · exact Or.inr ⟨q, vm₁, B, X₁.warmed, X', hpost, hstep₁ _ fun acts => by rw [doInvoke_state]; exact hsteps⟩
end VXIC
section VXID
variable {p : Program} {l : Launch} {e : Env} {R : Room} {s : State} {m : MethodId} {args : Array Value} {below : List Frame} {meth : Method} {c : Code} {H : Heap} {locs : List Loc} {cells slots : Nat}
theorem vx_runIN {y : MethodName} {bytes cc : ByteArray} {maxL nL mc ms n index : Nat} {ws : List Cond} {rm : Room} {Pc : Array Value → State → Prop} {Qc : Array Value → State → Outcome → State → Prop} {XC : String → State → State → Prop} {free : Addr → Prop} {Ts : List Cond} {own host : String} {b : Addr} {As rest : List Value} {g : JFrame}
    (S : CallFix p m c cc nL s args Ts own) (hM : vx_Met l y ws rm Pc Qc XC mc ms free) (cw : va_CN R s args own index y host bytes maxL none ws rm mc ms n ∧ y.name = "<init>" ∧ (Cond.instanceMethod y).before args s = true) (hp : PreS s H Pc (.ref b :: As))
    (hg : g.method = m) (hn : As.length = n) (hsize : g.locals.size = nL) (hstack : g.stack = As.reverse ++ .ref b :: rest) (hW : 2 * g.monitorRoom + (rest.map fun v => v.category).sum ≤ 8) (hdg : decode cc g.pc = .ok (.invokespecial index, 3)) (hf : cells + mc ≤ R.cells ∧ slots + ms ≤ R.slots) :
    vx_Run p l e R s m args below meth c H locs cells slots mc ms g rest (Qc (Value.ref b :: As).toArray) XC free := by
  obtain ⟨⟨⟨hrc, hrs, hfr, hlo, hws, hcw⟩, hcode, hini, hy, hlen, hl⟩, hx1, hx2⟩ := cw
  have hK : vx_Back l R p e below s args y 3 8 (PreOf R mc ms Pc) (PostOf Qc mc ms free) (vx_Post XC mc ms free) := vx_back (bytes := bytes) (maxL := maxL) (ret := none) hM hp.1 hrc hrs hfr hlo hws hcw (fun a' U hW => word_at hW (Or.inl (by first | rfl | simp [Cond.onTables, Cond.keeps, Cond.steady])) hini)
  obtain ⟨hx, hb, hml, ho, -⟩ := S
  have hPc := hp.2
  intro T hT X
  rcases vx_callIN X hx (bytes := bytes) (maxL := maxL) ho hx1 hl hx2 hcode hy hK hg (hsize.trans hml.symm) (a := b) (argsL := As) (rest := rest) (fun sig h => hn.trans (hlen sig h)) hstack hW (by rw [hb]; exact hdg)
    (fun vm₁ hW₁ => ⟨hf.1, hf.2, hPc (T.setVm vm₁) hT hW₁⟩) with ⟨v, vm₁, ⟨U', l2, c2, s2⟩, hW₁, X', ⟨g', mk, t, L, e1, e2, hq, h1, hL, h2, h3⟩, st⟩ | ⟨q, vm₁, ⟨U', l2, c2, s2⟩, hW₁, X', ⟨g', mk, t, L, E, ce, e1, e2, hq, hce, hcv, hcl, h1, hL, h2, h3⟩, st⟩
  · dsimp only [Pt.U, Pt.locs, Pt.cells, Pt.slots] at X' e1 e2 h1 h2 h3 st
    subst h1; subst h2; subst h3
    exact Or.inl ⟨v, (T.setVm vm₁).calling g' mk (Value.ref b :: As).toArray, t, U', L, hT, X', hL, e1, e2, hq, st⟩
  · dsimp only [Pt.U, Pt.locs, Pt.cells, Pt.slots] at X' e1 e2 h1 h2 h3 st hcl
    subst h1; subst h2; subst h3
    exact Or.inr ⟨q, (T.setVm vm₁).calling g' mk (Value.ref b :: As).toArray, t, U', L, E, ce, hT, X', hL, e1, e2, hq, hce, hcv, vx_cls hW₁ hcl, st⟩
end VXID
/-! ===== END ===== -/
/-! ===== BEGIN a method of a class above, found by the receiver, that may throw (follows va_callVU, va_runU of this kit) ===== -/
section
variable {p : Program} {l : Launch} {e : Env} {R : Room} {s : State} {m : MethodId} {args : Array Value} {below : List Frame} {meth : Method} {c : Code} {H : Heap} {locs : List Loc} {cells slots : Nat}
theorem vx_callVU {T : State} {locs : List Loc} {cells slots : Nat} (X : Stand p l e R s m args below meth c T locs cells slots) (hexec : p.tables.exec = Jvm.exec) {own C owner : String} {index : Nat} {x y : MethodName} {bytes : ByteArray} {maxL : Nat} {ret : Option FieldType}
    (hown : s.vm.findClass own = some m.cls) (hlink : (Cond.methodLink own index x).before args s = true) (hsame : (Cond.sameMethod x.cls owner x.name x.desc).before args s = true)
    (hd0 : va_Decl s ⟨owner, x.name, x.desc⟩) (howner : owner ≠ "java/lang/invoke/MethodHandle" ∧ owner ≠ "java/lang/invoke/VarHandle")
    (hsel : (Cond.selects C x y).before args s = true) (hinst : (Cond.instanceMethod y).before args s = true) (hcode : (Cond.code y bytes maxL ret).before args s = true)
    {W : Nat} {Pre : Pt → Array Value → Prop} {Post : Pt → Array Value → Option Value → Pt → Prop} {PostX : Pt → Array Value → Addr → Pt → Prop} (hK : vx_Back l R p e below s args y 3 W Pre Post PostX)
    {b : Addr} {cellB : Cell} (hcell : T.heap[b]? = some cellB) (hobj : cellB.vm.isStatics = false) (hcls : s.vm.findClass C = some cellB.cls)
    {g : JFrame} (hg : g.method = m) (hsize : g.locals.size = c.maxLocals) {argsL rest : List Value} (hlen : ∀ sig, parseMethodDescriptor x.desc = some sig → argsL.length = sig.parameters.length)
    (hstack : g.stack = argsL.reverse ++ .ref b :: rest) (hW : 2 * g.monitorRoom + (rest.map fun v => v.category).sum ≤ W) (hdg : decode c.code g.pc = .ok (.invokevirtual index, 3))
    (hpre : ∀ vm₁, s.WarmedH vm₁ → Pre ⟨T.setVm vm₁, locs, cells, slots⟩ (Value.ref b :: argsL).toArray) :
    (∃ (v : Option Value) (vm₁ : Vm) (B : Pt), s.WarmedH vm₁ ∧ Stand p l e R s m args below meth c B.U B.locs B.cells B.slots ∧ Post ⟨T.setVm vm₁, locs, cells, slots⟩ (Value.ref b :: argsL).toArray v B ∧
      ∀ target, Steps p.tables e below (B.U.setTop { g with pc := g.pc + 3, stack := v.toList ++ rest }) target → Steps p.tables e below (T.setTop g) target) ∨
    (∃ (q : Addr) (vm₁ : Vm) (B : Pt), s.WarmedH vm₁ ∧ Stand p l e R s m args below meth c B.U B.locs B.cells B.slots ∧ PostX ⟨T.setVm vm₁, locs, cells, slots⟩ (Value.ref b :: argsL).toArray q B ∧
      Steps p.tables e below (T.setTop g) ((B.U.setTop { g with stack := rest }).pushFrame (.throwing q))) := by
  obtain ⟨r0, r, hn, hrm, hstR, hsigR⟩ := hd0
  obtain ⟨cn, ck, r1, hcn, hck, hni, hf, hn1⟩ := Cond.sameMethod_found hsame
  cases hn.symm.trans hn1
  obtain ⟨mk, methM, hnamed, hmethM, -, habM⟩ := Cond.instanceMethod_spec hinst
  obtain ⟨c2, r2, m2, q1, q2, q3, q4, kP, hkP, hkPi⟩ := Cond.selects_spec hsel
  cases hcls.symm.trans q1
  cases hf.symm.trans q2
  cases hnamed.symm.trans q3
  have hselP : selectMethod e.platform s.vm cellB.cls r0 = .method mk := by rw [Launch.admits_selectMethod X.admits]; exact q4
  obtain ⟨vm₁, X₁, hstep₁⟩ := X.invokevirtualUp hexec hown hlink hsame howner hn hrm hstR (a := b) (cell := cellB) hcell
    (fun z h => by rw [h] at hobj; cases hobj) hselP hmethM habM hkP hkPi (g := g) hg (argsL := argsL) (rest := rest) (hlen _ hsigR) hstack hdg
  rcases hK m meth c ⟨T.setVm vm₁, locs, cells, slots⟩ { g with stack := rest } (.invokevirtual index) mk (Value.ref b :: argsL).toArray X₁ hg hsize hdg hW (X₁.named hnamed) (hpre vm₁ X₁.warmed) with ⟨v, B, X', hpost, hsteps⟩ | ⟨q, B, X', hpost, hsteps⟩
  · exact Or.inl ⟨v, vm₁, B, X₁.warmed, X', hpost, fun target h => hstep₁ _ fun acts => by rw [doInvoke_state]; exact hsteps.trans h⟩
  · exact Or.inr ⟨q, vm₁, B, X₁.warmed, X', hpost, hstep₁ _ fun acts => by rw [doInvoke_state]; exact hsteps⟩
theorem vx_runU {x y : MethodName} {bytes cc : ByteArray} {maxL nL mc ms n index : Nat} {ret : Option FieldType} {ws : List Cond} {rm : Room} {Pc : Array Value → State → Prop} {Qc : Array Value → State → Outcome → State → Prop} {XC : String → State → State → Prop} {free : Addr → Prop} {Ts : List Cond} {own C owner : String} {b : Addr} {As rest : List Value} {g : JFrame}
    (S : CallFix p m c cc nL s args Ts own) (hM : vx_Met l y ws rm Pc Qc XC mc ms free) (cw : va_CU R s args own C owner index x y bytes maxL ret ws rm mc ms n) (hp : PreV s H C b Pc As)
    (hg : g.method = m) (hn : As.length = n) (hsize : g.locals.size = nL) (hstack : g.stack = As.reverse ++ .ref b :: rest) (hW : 2 * g.monitorRoom + (rest.map fun v => v.category).sum ≤ 8) (hdg : decode cc g.pc = .ok (.invokevirtual index, 3)) (hf : cells + mc ≤ R.cells ∧ slots + ms ≤ R.slots) :
    vx_Run p l e R s m args below meth c H locs cells slots mc ms g rest (Qc (Value.ref b :: As).toArray) XC free := by
  obtain ⟨hrc, hrs, hfr, hlo, hws, hcw⟩ := cw.back
  have hini := cw.init
  have hK : vx_Back l R p e below s args y 3 8 (PreOf R mc ms Pc) (PostOf Qc mc ms free) (vx_Post XC mc ms free) := vx_back (bytes := bytes) (maxL := maxL) (ret := ret) hM hp.1 hrc hrs hfr hlo hws hcw (fun a' U hW => word_at hW (Or.inl (by first | rfl | simp [Cond.onTables, Cond.keeps, Cond.steady])) hini)
  obtain ⟨hx, hb, hml, ho, -⟩ := S
  obtain ⟨-, ⟨cellB, hcB, hoB, hclB⟩, hPc⟩ := hp
  intro T hT X
  rcases vx_callVU X hx (C := C) (owner := owner) (bytes := bytes) (maxL := maxL) (ret := ret) ho cw.link cw.same cw.decl cw.notMH cw.sel cw.inst cw.code hK (by rw [hT]; exact hcB) hoB hclB hg (hsize.trans hml.symm) (argsL := As) (rest := rest) (fun sig h => hn.trans (cw.len sig h)) hstack hW (by rw [hb]; exact hdg)
    (fun vm₁ hW₁ => ⟨hf.1, hf.2, hPc (T.setVm vm₁) hT hW₁⟩) with ⟨v, vm₁, ⟨U', l2, c2, s2⟩, hW₁, X', ⟨g', mk, t, L, e1, e2, hq, h1, hL, h2, h3⟩, st⟩ | ⟨q, vm₁, ⟨U', l2, c2, s2⟩, hW₁, X', ⟨g', mk, t, L, E, ce, e1, e2, hq, hce, hcv, hcl, h1, hL, h2, h3⟩, st⟩
  · dsimp only [Pt.U, Pt.locs, Pt.cells, Pt.slots] at X' e1 e2 h1 h2 h3 st
    subst h1; subst h2; subst h3
    exact Or.inl ⟨v, (T.setVm vm₁).calling g' mk (Value.ref b :: As).toArray, t, U', L, hT, X', hL, e1, e2, hq, st⟩
  · dsimp only [Pt.U, Pt.locs, Pt.cells, Pt.slots] at X' e1 e2 h1 h2 h3 st hcl
    subst h1; subst h2; subst h3
    exact Or.inr ⟨q, (T.setVm vm₁).calling g' mk (Value.ref b :: As).toArray, t, U', L, E, ce, hT, X', hL, e1, e2, hq, hce, hcv, vx_cls hW₁ hcl, st⟩
end
/-! ===== END ===== -/
/-! ===== BEGIN super.m(..) that may throw (follows va_callSU, va_runSU) ===== -/
section
variable {p : Program} {l : Launch} {e : Env} {R : Room} {s : State} {m : MethodId} {args : Array Value} {below : List Frame} {meth : Method} {c : Code} {H : Heap} {locs : List Loc} {cells slots : Nat}
theorem vx_callSU {T : State} {locs : List Loc} {cells slots : Nat} (X : Stand p l e R s m args below meth c T locs cells slots) (hexec : p.tables.exec = Jvm.exec) {own : String} {index : Nat} {y : MethodName} {bytes : ByteArray} {maxL : Nat} {ret : Option FieldType}
    (hown : s.vm.findClass own = some m.cls) (hlink : (Cond.methodLink own index y).before args s = true) (hsame : (Cond.sameMethod y.cls y.cls y.name y.desc).before args s = true) (hsup : (Cond.superclass own y.cls).before args s = true)
    (hinst : (Cond.instanceMethod y).before args s = true) (hcode : (Cond.code y bytes maxL ret).before args s = true) (hno : y.name ≠ "<init>")
    {W : Nat} {Pre : Pt → Array Value → Prop} {Post : Pt → Array Value → Option Value → Pt → Prop} {PostX : Pt → Array Value → Addr → Pt → Prop} (hK : vx_Back l R p e below s args y 3 W Pre Post PostX)
    {b : Addr} {cellB : Cell} {kB : Class} (hcell : T.heap[b]? = some cellB) (hobj : cellB.vm.isStatics = false) (hkB : s.vm.classes[cellB.cls]? = some kB)
    {g : JFrame} (hg : g.method = m) (hsize : g.locals.size = c.maxLocals) {argsL rest : List Value} (hlen : ∀ sig, parseMethodDescriptor y.desc = some sig → argsL.length = sig.parameters.length)
    (hstack : g.stack = argsL.reverse ++ .ref b :: rest) (hW : 2 * g.monitorRoom + (rest.map fun v => v.category).sum ≤ W) (hdg : decode c.code g.pc = .ok (.invokespecial index, 3))
    (hpre : ∀ vm₁, s.WarmedH vm₁ → Pre ⟨T.setVm vm₁, locs, cells, slots⟩ (Value.ref b :: argsL).toArray) :
    (∃ (v : Option Value) (vm₁ : Vm) (B : Pt), s.WarmedH vm₁ ∧ Stand p l e R s m args below meth c B.U B.locs B.cells B.slots ∧ Post ⟨T.setVm vm₁, locs, cells, slots⟩ (Value.ref b :: argsL).toArray v B ∧
      ∀ target, Steps p.tables e below (B.U.setTop { g with pc := g.pc + 3, stack := v.toList ++ rest }) target → Steps p.tables e below (T.setTop g) target) ∨
    (∃ (q : Addr) (vm₁ : Vm) (B : Pt), s.WarmedH vm₁ ∧ Stand p l e R s m args below meth c B.U B.locs B.cells B.slots ∧ PostX ⟨T.setVm vm₁, locs, cells, slots⟩ (Value.ref b :: argsL).toArray q B ∧
      Steps p.tables e below (T.setTop g) ((B.U.setTop { g with stack := rest }).pushFrame (.throwing q))) := by
  obtain ⟨mk, methM, hnamed, hmethM, hstM, habM⟩ := Cond.instanceMethod_spec hinst
  obtain ⟨methM', cM, hmethM', -, -, -, -, -, -, hsigM⟩ := Cond.code_spec hnamed hcode
  cases hmethM.symm.trans hmethM'
  obtain ⟨ps, dk, kp, hps, hdk, hkp, hsuper, -, -, hnid⟩ := Cond.superclass_spec hown hsup
  have hn : s.methodNamed? ⟨y.cls, y.name, y.desc⟩ = some mk := hnamed
  have hpm : ps = mk.cls := Option.some.inj (hps.symm.trans (findClass_of_methodNamed hnamed))
  have hsub : s.vm.isSubclass ps mk.cls = true := by rw [hpm]; simp [Vm.isSubclass, Vm.isSubclassAux]
  obtain ⟨vm₁, X₁, hstep₁⟩ := X.invokespecialUp hexec hown hlink hsame hn hmethM hstM habM hno hdk hnid hps hsuper hsub (a := b) (cell := cellB) hcell
    (fun z h => by rw [h] at hobj; cases hobj) hkB (g := g) hg (argsL := argsL) (rest := rest) (hlen _ hsigM) hstack hdg
  rcases hK m meth c ⟨T.setVm vm₁, locs, cells, slots⟩ { g with stack := rest } (.invokespecial index) mk (Value.ref b :: argsL).toArray X₁ hg hsize hdg hW (X₁.named hnamed) (hpre vm₁ X₁.warmed) with ⟨v, B, X', hpost, hsteps⟩ | ⟨q, B, X', hpost, hsteps⟩
  · exact Or.inl ⟨v, vm₁, B, X₁.warmed, X', hpost, fun target h => hstep₁ _ (by rw [doInvoke_state]; exact hsteps.trans h)⟩
  · exact Or.inr ⟨q, vm₁, B, X₁.warmed, X', hpost, hstep₁ _ (by rw [doInvoke_state]; exact hsteps)⟩
theorem vx_runSU {y : MethodName} {bytes cc : ByteArray} {maxL nL mc ms n index : Nat} {ret : Option FieldType} {ws : List Cond} {rm : Room} {Pc : Array Value → State → Prop} {Qc : Array Value → State → Outcome → State → Prop} {XC : String → State → State → Prop} {free : Addr → Prop} {Ts : List Cond} {own C : String} {cC : ClassId} {b : Addr} {As rest : List Value} {g : JFrame}
    (hat : ClassAt s C cC) (S : CallFix p m c cc nL s args Ts own) (hM : vx_Met l y ws rm Pc Qc XC mc ms free) (cw : va_CS R s args own index y bytes maxL ret ws rm mc ms n) (hp : PreV s H C b Pc As)
    (hg : g.method = m) (hn : As.length = n) (hsize : g.locals.size = nL) (hstack : g.stack = As.reverse ++ .ref b :: rest) (hW : 2 * g.monitorRoom + (rest.map fun v => v.category).sum ≤ 8) (hdg : decode cc g.pc = .ok (.invokespecial index, 3)) (hf : cells + mc ≤ R.cells ∧ slots + ms ≤ R.slots) :
    vx_Run p l e R s m args below meth c H locs cells slots mc ms g rest (Qc (Value.ref b :: As).toArray) XC free := by
  obtain ⟨⟨hrc, hrs, hfr, hlo, hws, hcw⟩, hl1, hl2, hl3, hl4, hini, hcode, hno, hlen⟩ := cw
  have hK : vx_Back l R p e below s args y 3 8 (PreOf R mc ms Pc) (PostOf Qc mc ms free) (vx_Post XC mc ms free) := vx_back (bytes := bytes) (maxL := maxL) (ret := ret) hM hp.1 hrc hrs hfr hlo hws hcw (fun a' U hW => word_at hW (Or.inl (by first | rfl | simp [Cond.onTables, Cond.keeps, Cond.steady])) hini)
  obtain ⟨hx, hb, hml, ho, -⟩ := S
  obtain ⟨-, ⟨cellB, hcB, hoB, hclB⟩, hPc⟩ := hp
  obtain ⟨hfc, kB, hkB, -⟩ := hat
  cases hfc.symm.trans hclB
  intro T hT X
  rcases vx_callSU X hx (bytes := bytes) (maxL := maxL) (ret := ret) ho hl1 hl2 hl3 hl4 hcode hno hK (by rw [hT]; exact hcB) hoB hkB hg (hsize.trans hml.symm) (argsL := As) (rest := rest) (fun sig h => hn.trans (hlen sig h)) hstack hW (by rw [hb]; exact hdg)
    (fun vm₁ hW₁ => ⟨hf.1, hf.2, hPc (T.setVm vm₁) hT hW₁⟩) with ⟨v, vm₁, ⟨U', l2, c2, s2⟩, hW₁, X', ⟨g', mk, t, L, e1, e2, hq, h1, hL, h2, h3⟩, st⟩ | ⟨q, vm₁, ⟨U', l2, c2, s2⟩, hW₁, X', ⟨g', mk, t, L, E, ce, e1, e2, hq, hce, hcv, hcl, h1, hL, h2, h3⟩, st⟩
  · dsimp only [Pt.U, Pt.locs, Pt.cells, Pt.slots] at X' e1 e2 h1 h2 h3 st
    subst h1; subst h2; subst h3
    exact Or.inl ⟨v, (T.setVm vm₁).calling g' mk (Value.ref b :: As).toArray, t, U', L, hT, X', hL, e1, e2, hq, st⟩
  · dsimp only [Pt.U, Pt.locs, Pt.cells, Pt.slots] at X' e1 e2 h1 h2 h3 st hcl
    subst h1; subst h2; subst h3
    exact Or.inr ⟨q, (T.setVm vm₁).calling g' mk (Value.ref b :: As).toArray, t, U', L, E, ce, hT, X', hL, e1, e2, hq, hce, hcv, vx_cls hW₁ hcl, st⟩
end
/-! ===== END ===== -/
/-! ===== BEGIN a private method of a nest mate that may throw (follows va_callVN, va_callSN, va_runVN, va_runSN) ===== -/
section
variable {p : Program} {l : Launch} {e : Env} {R : Room} {s : State} {m : MethodId} {args : Array Value} {below : List Frame} {meth : Method} {c : Code} {H : Heap} {locs : List Loc} {cells slots : Nat}
variable {T : State}
theorem vx_callVN (X : Stand p l e R s m args below meth c T locs cells slots) (hexec : p.tables.exec = Jvm.exec) {own C : String} {index : Nat} {host : String} {y : MethodName} {bytes : ByteArray} {maxL : Nat} {ret : Option FieldType}
    (hown : s.vm.findClass own = some m.cls) (hlink : (Cond.methodLinkNest own index y host).before args s = true) (hinst : (Cond.instanceMethod y).before args s = true) (hsel : (Cond.selects C y y).before args s = true)
    (hcode : (Cond.code y bytes maxL ret).before args s = true) (hy : y.cls ≠ "java/lang/invoke/MethodHandle" ∧ y.cls ≠ "java/lang/invoke/VarHandle")
    {W : Nat} {Pre : Pt → Array Value → Prop} {Post : Pt → Array Value → Option Value → Pt → Prop} {PostX : Pt → Array Value → Addr → Pt → Prop} (hK : vx_Back l R p e below s args y 3 W Pre Post PostX)
    {b : Addr} {cellB : Cell} (hcell : T.heap[b]? = some cellB) (hobj : cellB.vm.isStatics = false) (hcls : s.vm.findClass C = some cellB.cls)
    {g : JFrame} (hg : g.method = m) (hsize : g.locals.size = c.maxLocals) {argsL rest : List Value} (hlen : ∀ sig, parseMethodDescriptor y.desc = some sig → argsL.length = sig.parameters.length)
    (hstack : g.stack = argsL.reverse ++ .ref b :: rest) (hW : 2 * g.monitorRoom + (rest.map fun v => v.category).sum ≤ W) (hdg : decode c.code g.pc = .ok (.invokevirtual index, 3))
    (hpre : ∀ vm₁, s.WarmedH vm₁ → Pre ⟨T.setVm vm₁, locs, cells, slots⟩ (Value.ref b :: argsL).toArray) :
    (∃ (v : Option Value) (vm₁ : Vm) (B : Pt), s.WarmedH vm₁ ∧ Stand p l e R s m args below meth c B.U B.locs B.cells B.slots ∧ Post ⟨T.setVm vm₁, locs, cells, slots⟩ (Value.ref b :: argsL).toArray v B ∧
      ∀ target, Steps p.tables e below (B.U.setTop { g with pc := g.pc + 3, stack := v.toList ++ rest }) target → Steps p.tables e below (T.setTop g) target) ∨
    (∃ (q : Addr) (vm₁ : Vm) (B : Pt), s.WarmedH vm₁ ∧ Stand p l e R s m args below meth c B.U B.locs B.cells B.slots ∧ PostX ⟨T.setVm vm₁, locs, cells, slots⟩ (Value.ref b :: argsL).toArray q B ∧
      Steps p.tables e below (T.setTop g) ((B.U.setTop { g with stack := rest }).pushFrame (.throwing q))) := by
  obtain ⟨mk, methM, hnamed, hmethM, hstM, habM⟩ := Cond.instanceMethod_spec hinst
  obtain ⟨methM', cM, hmethM', -, -, -, -, -, -, hsigM⟩ := Cond.code_spec hnamed hcode
  cases hmethM.symm.trans hmethM'
  obtain ⟨c2, r2, m2, q1, q2, q3, q4, kP, hkP, hkPi⟩ := Cond.selects_spec hsel
  cases hcls.symm.trans q1
  cases (State.methodFound?_of_named hnamed hy).symm.trans q2
  cases hnamed.symm.trans q3
  have hselP : selectMethod e.platform s.vm cellB.cls mk = .method mk := by rw [Launch.admits_selectMethod X.admits]; exact q4
  obtain ⟨vm₁, X₁, hstep₁⟩ := X.invokevirtualNest hexec hown hlink hnamed hmethM hstM hkP hkPi hy (a := b) (cell := cellB) hcell
    (fun z h => by rw [h] at hobj; cases hobj) hselP hmethM habM hkP hkPi (g := g) hg (argsL := argsL) (rest := rest) (hlen _ hsigM) hstack hdg
  rcases hK m meth c ⟨T.setVm vm₁, locs, cells, slots⟩ { g with stack := rest } (.invokevirtual index) mk (Value.ref b :: argsL).toArray X₁ hg hsize hdg hW (X₁.named hnamed) (hpre vm₁ X₁.warmed) with ⟨v, B, X', hpost, hsteps⟩ | ⟨q, B, X', hpost, hsteps⟩
  · exact Or.inl ⟨v, vm₁, B, X₁.warmed, X', hpost, fun target h => hstep₁ _ fun acts => by rw [doInvoke_state]; exact hsteps.trans h⟩
  · exact Or.inr ⟨q, vm₁, B, X₁.warmed, X', hpost, hstep₁ _ fun acts => by rw [doInvoke_state]; exact hsteps⟩
theorem vx_callSN (X : Stand p l e R s m args below meth c T locs cells slots) (hexec : p.tables.exec = Jvm.exec) {own : String} {index : Nat} {host : String} {y : MethodName} {bytes : ByteArray} {maxL : Nat} {ret : Option FieldType}
    (hown : s.vm.findClass own = some m.cls) (hlink : (Cond.methodLinkNest own index y host).before args s = true) (hstat : (Cond.static y).before args s = true) (hinit : (Cond.initialized y.cls).before args s = true)
    (hcode : (Cond.code y bytes maxL ret).before args s = true) (hy : y.cls ≠ "java/lang/invoke/MethodHandle" ∧ y.cls ≠ "java/lang/invoke/VarHandle")
    {W : Nat} {Pre : Pt → Array Value → Prop} {Post : Pt → Array Value → Option Value → Pt → Prop} {PostX : Pt → Array Value → Addr → Pt → Prop} (hK : vx_Back l R p e below s args y 3 W Pre Post PostX)
    {g : JFrame} (hg : g.method = m) (hsize : g.locals.size = c.maxLocals) {argsL rest : List Value} (hlen : ∀ sig, parseMethodDescriptor y.desc = some sig → argsL.length = sig.parameters.length)
    (hstack : g.stack = argsL.reverse ++ rest) (hW : 2 * g.monitorRoom + (rest.map fun v => v.category).sum ≤ W) (hdg : decode c.code g.pc = .ok (.invokestatic index, 3))
    (hpre : ∀ vm₁, s.WarmedH vm₁ → Pre ⟨T.setVm vm₁, locs, cells, slots⟩ argsL.toArray) :
    (∃ (v : Option Value) (vm₁ : Vm) (B : Pt), s.WarmedH vm₁ ∧ Stand p l e R s m args below meth c B.U B.locs B.cells B.slots ∧ Post ⟨T.setVm vm₁, locs, cells, slots⟩ argsL.toArray v B ∧
      ∀ target, Steps p.tables e below (B.U.setTop { g with pc := g.pc + 3, stack := v.toList ++ rest }) target → Steps p.tables e below (T.setTop g) target) ∨
    (∃ (q : Addr) (vm₁ : Vm) (B : Pt), s.WarmedH vm₁ ∧ Stand p l e R s m args below meth c B.U B.locs B.cells B.slots ∧ PostX ⟨T.setVm vm₁, locs, cells, slots⟩ argsL.toArray q B ∧
      Steps p.tables e below (T.setTop g) ((B.U.setTop { g with stack := rest }).pushFrame (.throwing q))) := by
  obtain ⟨mk, hnamed⟩ := Cond.code_named hcode
  obtain ⟨methM, cM, hmethM, -, -, -, -, -, -, hsigM⟩ := Cond.code_spec hnamed hcode
  have hstatic : methM.isStatic = true := Cond.static_spec hnamed hmethM hstat
  obtain ⟨kP, hkP, -⟩ := className_of_methodNamed hnamed
  have hinitP : kP.init = .initialized := Cond.initialized_spec (findClass_of_methodNamed hnamed) hkP hinit
  obtain ⟨vm₁, X₁, hstep₁⟩ := X.invokestaticNest hexec hown hlink hnamed hmethM hstatic hkP hinitP hy (g := g) hg (argsL := argsL) (rest := rest) (hlen _ hsigM) hstack hdg
  rcases hK m meth c ⟨T.setVm vm₁, locs, cells, slots⟩ { g with stack := rest } (.invokestatic index) mk argsL.toArray X₁ hg hsize hdg hW (X₁.named hnamed) (hpre vm₁ X₁.warmed) with ⟨v, B, X', hpost, hsteps⟩ | ⟨q, B, X', hpost, hsteps⟩
  · exact Or.inl ⟨v, vm₁, B, X₁.warmed, X', hpost, fun target h => hstep₁ _ fun acts => by rw [doInvoke_state]; exact hsteps.trans h⟩
  · exact Or.inr ⟨q, vm₁, B, X₁.warmed, X', hpost, hstep₁ _ fun acts => by rw [doInvoke_state]; exact hsteps⟩
theorem vx_runVN {y : MethodName} {bytes cc : ByteArray} {maxL nL mc ms n index : Nat} {ret : Option FieldType} {ws : List Cond} {rm : Room} {Pc : Array Value → State → Prop} {Qc : Array Value → State → Outcome → State → Prop} {XC : String → State → State → Prop} {free : Addr → Prop} {Ts : List Cond} {own C host : String} {b : Addr} {As rest : List Value} {g : JFrame}
    (S : CallFix p m c cc nL s args Ts own) (hM : vx_Met l y ws rm Pc Qc XC mc ms free) (cw : va_CN R s args own index y host bytes maxL ret ws rm mc ms n ∧ (Cond.instanceMethod y).before args s = true ∧ (Cond.selects C y y).before args s = true) (hp : PreV s H C b Pc As)
    (hg : g.method = m) (hn : As.length = n) (hsize : g.locals.size = nL) (hstack : g.stack = As.reverse ++ .ref b :: rest) (hW : 2 * g.monitorRoom + (rest.map fun v => v.category).sum ≤ 8) (hdg : decode cc g.pc = .ok (.invokevirtual index, 3)) (hf : cells + mc ≤ R.cells ∧ slots + ms ≤ R.slots) :
    vx_Run p l e R s m args below meth c H locs cells slots mc ms g rest (Qc (Value.ref b :: As).toArray) XC free := by
  obtain ⟨⟨⟨hrc, hrs, hfr, hlo, hws, hcw⟩, hcode, hini, hy, hlen, hl⟩, hx1, hx2⟩ := cw
  have hK : vx_Back l R p e below s args y 3 8 (PreOf R mc ms Pc) (PostOf Qc mc ms free) (vx_Post XC mc ms free) := vx_back (bytes := bytes) (maxL := maxL) (ret := ret) hM hp.1 hrc hrs hfr hlo hws hcw (fun a' U hW => word_at hW (Or.inl (by first | rfl | simp [Cond.onTables, Cond.keeps, Cond.steady])) hini)
  obtain ⟨hx, hb, hml, ho, -⟩ := S
  obtain ⟨-, ⟨cellB, hcB, hoB, hclB⟩, hPc⟩ := hp
  intro T hT X
  rcases vx_callVN X hx (C := C) (bytes := bytes) (maxL := maxL) (ret := ret) ho hl hx1 hx2 hcode hy hK (by rw [hT]; exact hcB) hoB hclB hg (hsize.trans hml.symm) (argsL := As) (rest := rest) (fun sig h => hn.trans (hlen sig h)) hstack hW (by rw [hb]; exact hdg)
    (fun vm₁ hW₁ => ⟨hf.1, hf.2, hPc (T.setVm vm₁) hT hW₁⟩) with ⟨v, vm₁, ⟨U', l2, c2, s2⟩, hW₁, X', ⟨g', mk, t, L, e1, e2, hq, h1, hL, h2, h3⟩, st⟩ | ⟨q, vm₁, ⟨U', l2, c2, s2⟩, hW₁, X', ⟨g', mk, t, L, E, ce, e1, e2, hq, hce, hcv, hcl, h1, hL, h2, h3⟩, st⟩
  · dsimp only [Pt.U, Pt.locs, Pt.cells, Pt.slots] at X' e1 e2 h1 h2 h3 st
    subst h1; subst h2; subst h3
    exact Or.inl ⟨v, (T.setVm vm₁).calling g' mk (Value.ref b :: As).toArray, t, U', L, hT, X', hL, e1, e2, hq, st⟩
  · dsimp only [Pt.U, Pt.locs, Pt.cells, Pt.slots] at X' e1 e2 h1 h2 h3 st hcl
    subst h1; subst h2; subst h3
    exact Or.inr ⟨q, (T.setVm vm₁).calling g' mk (Value.ref b :: As).toArray, t, U', L, E, ce, hT, X', hL, e1, e2, hq, hce, hcv, vx_cls hW₁ hcl, st⟩
theorem vx_runSN {y : MethodName} {bytes cc : ByteArray} {maxL nL mc ms n index : Nat} {ret : Option FieldType} {ws : List Cond} {rm : Room} {Pc : Array Value → State → Prop} {Qc : Array Value → State → Outcome → State → Prop} {XC : String → State → State → Prop} {free : Addr → Prop} {Ts : List Cond} {own host : String} {As rest : List Value} {g : JFrame}
    (S : CallFix p m c cc nL s args Ts own) (hM : vx_Met l y ws rm Pc Qc XC mc ms free) (cw : va_CN R s args own index y host bytes maxL ret ws rm mc ms n ∧ (Cond.static y).before args s = true ∧ True) (hp : PreS s H Pc As)
    (hg : g.method = m) (hn : As.length = n) (hsize : g.locals.size = nL) (hstack : g.stack = As.reverse ++ rest) (hW : 2 * g.monitorRoom + (rest.map fun v => v.category).sum ≤ 8) (hdg : decode cc g.pc = .ok (.invokestatic index, 3)) (hf : cells + mc ≤ R.cells ∧ slots + ms ≤ R.slots) :
    vx_Run p l e R s m args below meth c H locs cells slots mc ms g rest (Qc As.toArray) XC free := by
  obtain ⟨⟨⟨hrc, hrs, hfr, hlo, hws, hcw⟩, hcode, hini, hy, hlen, hl⟩, hx1, hx2⟩ := cw
  have hK : vx_Back l R p e below s args y 3 8 (PreOf R mc ms Pc) (PostOf Qc mc ms free) (vx_Post XC mc ms free) := vx_back (bytes := bytes) (maxL := maxL) (ret := ret) hM hp.1 hrc hrs hfr hlo hws hcw (fun a' U hW => word_at hW (Or.inl (by first | rfl | simp [Cond.onTables, Cond.keeps, Cond.steady])) hini)
  obtain ⟨hx, hb, hml, ho, -⟩ := S
  have hPc := hp.2
  intro T hT X
  rcases vx_callSN X hx (bytes := bytes) (maxL := maxL) (ret := ret) ho hl hx1 hini hcode hy hK hg (hsize.trans hml.symm) (argsL := As) (rest := rest) (fun sig h => hn.trans (hlen sig h)) hstack hW (by rw [hb]; exact hdg)
    (fun vm₁ hW₁ => ⟨hf.1, hf.2, hPc (T.setVm vm₁) hT hW₁⟩) with ⟨v, vm₁, ⟨U', l2, c2, s2⟩, hW₁, X', ⟨g', mk, t, L, e1, e2, hq, h1, hL, h2, h3⟩, st⟩ | ⟨q, vm₁, ⟨U', l2, c2, s2⟩, hW₁, X', ⟨g', mk, t, L, E, ce, e1, e2, hq, hce, hcv, hcl, h1, hL, h2, h3⟩, st⟩
  · dsimp only [Pt.U, Pt.locs, Pt.cells, Pt.slots] at X' e1 e2 h1 h2 h3 st
    subst h1; subst h2; subst h3
    exact Or.inl ⟨v, (T.setVm vm₁).calling g' mk As.toArray, t, U', L, hT, X', hL, e1, e2, hq, st⟩
  · dsimp only [Pt.U, Pt.locs, Pt.cells, Pt.slots] at X' e1 e2 h1 h2 h3 st hcl
    subst h1; subst h2; subst h3
    exact Or.inr ⟨q, (T.setVm vm₁).calling g' mk As.toArray, t, U', L, E, ce, hT, X', hL, e1, e2, hq, hce, hcv, vx_cls hW₁ hcl, st⟩
end
/-! ===== END ===== -/
/-! ===== BEGIN calls by an interface of methods that may throw (vx_callIF, vx_runF follow va_callIF, va_runF of this kit) ===== -/
section
variable {p : Program} {l : Launch} {e : Env} {R : Room} {s : State} {m : MethodId} {args : Array Value} {below : List Frame} {meth : Method} {c : Code} {H : Heap} {locs : List Loc} {cells slots : Nat} {Q : State → Prop}
variable {mc ms : Nat} {free : Addr → Prop} {A0 A1 : Nat → Prop} {H0 : Heap} {a : Array Value} {pc : Nat} {ls : Array Slot} {st0 rest : List Value}
def vx_Run5 (p : Program) (l : Launch) (e : Env) (R : Room) (s : State) (m : MethodId) (args : Array Value) (below : List Frame) (meth : Method) (c : Code) (H : Heap) (locs : List Loc) (cells slots mc ms : Nat) (g : JFrame) (rest : List Value) (Qa : State → Outcome → State → Prop) (XC : String → State → State → Prop) (free : Addr → Prop) : Prop :=
  ∀ T : State, T.heap = H → Stand p l e R s m args below meth c T locs cells slots →
    (∃ (v : Option Value) (st₀ t T' : State) (L : List Loc), st₀.heap = H ∧ Stand p l e R s m args below meth c T' (locs ++ L) (cells + mc) (slots + ms) ∧ (∀ q ∈ L, free q.base) ∧ T'.heap = t.heap ∧ T'.vm = t.vm ∧ Qa st₀ (.returned v) t ∧
      Goes p e below T g T' { g with pc := g.pc + 5, stack := v.toList ++ rest }) ∨
    (∃ (q : Addr) (st₀ t T' : State) (L : List Loc) (E : String) (ce : Cell), st₀.heap = H ∧ Stand p l e R s m args below meth c T' (locs ++ L) (cells + mc) (slots + ms) ∧ (∀ z ∈ L, free z.base) ∧ T'.heap = t.heap ∧ T'.vm = t.vm ∧ XC E st₀ t ∧ t.heap[q]? = some ce ∧ ce.vm = .none ∧ s.vm.findClass E = some ce.cls ∧
      Steps p.tables e below (T.setTop g) ((T'.setTop { g with stack := rest }).pushFrame (.throwing q)))
theorem vx_callIF {T : State} (X : Stand p l e R s m args below meth c T locs cells slots) (hexec : p.tables.exec = Jvm.exec) {own C : String} {index count : Nat} {x y : MethodName} {bytes : ByteArray} {maxL : Nat} {ret : Option FieldType}
    (hown : s.vm.findClass own = some m.cls) (hlink : (Cond.methodLink own index x).before args s = true) (hdecl : (Cond.declares x).before args s = true) (hface : (Cond.interfaceMethod x.cls x.cls x.name x.desc).before args s = true)
    (hsel : (Cond.selects C x y).before args s = true) (hinst : (Cond.instanceMethod y).before args s = true) (hpub : (Cond.publicMethod y).before args s = true) (hunh : (Cond.unhidden C x.name x.desc).before args s = true)
    (hcast : (Cond.castable C x.cls).before args s = true) (hcode : (Cond.code y bytes maxL ret).before args s = true) (hx : x.cls ≠ "java/lang/invoke/MethodHandle" ∧ x.cls ≠ "java/lang/invoke/VarHandle")
    {W9 : Nat} {Pre : Pt → Array Value → Prop} {Post : Pt → Array Value → Option Value → Pt → Prop} {PostX : Pt → Array Value → Addr → Pt → Prop} (hK : vx_Back l R p e below s args y 5 W9 Pre Post PostX)
    {b : Addr} {cellB : Cell} {kB : Class} (hcell : T.heap[b]? = some cellB) (hobj : cellB.vm.isStatics = false) (hcls : s.vm.findClass C = some cellB.cls) (hkB : s.vm.classes[cellB.cls]? = some kB)
    {g : JFrame} (hg : g.method = m) (hsize : g.locals.size = c.maxLocals) {argsL rest : List Value} (hlen : ∀ sig, parseMethodDescriptor x.desc = some sig → argsL.length = sig.parameters.length)
    (hstack : g.stack = argsL.reverse ++ .ref b :: rest) (hW : 2 * g.monitorRoom + (rest.map fun v => v.category).sum ≤ W9) (hdg : decode c.code g.pc = .ok (.invokeinterface index count, 5))
    (hpre : ∀ vm₁, s.WarmedH vm₁ → Pre ⟨T.setVm vm₁, locs, cells, slots⟩ (Value.ref b :: argsL).toArray) :
    (∃ (v : Option Value) (vm₁ : Vm) (B : Pt), s.WarmedH vm₁ ∧ Stand p l e R s m args below meth c B.U B.locs B.cells B.slots ∧ Post ⟨T.setVm vm₁, locs, cells, slots⟩ (Value.ref b :: argsL).toArray v B ∧
      ∀ target, Steps p.tables e below (B.U.setTop { g with pc := g.pc + 5, stack := v.toList ++ rest }) target → Steps p.tables e below (T.setTop g) target) ∨
    (∃ (q : Addr) (vm₁ : Vm) (B : Pt), s.WarmedH vm₁ ∧ Stand p l e R s m args below meth c B.U B.locs B.cells B.slots ∧ PostX ⟨T.setVm vm₁, locs, cells, slots⟩ (Value.ref b :: argsL).toArray q B ∧
      Steps p.tables e below (T.setTop g) ((B.U.setTop { g with stack := rest }).pushFrame (.throwing q))) := by
  obtain ⟨r0, r, hn, hrm, hstR, hsigR⟩ := Cond.declares_spec hdecl
  obtain ⟨cL, kL, r1, hcL, hkL, hiL, hfoundL, hn1⟩ := Cond.interfaceMethod_spec hface
  cases hn.symm.trans hn1
  have hr0cls : r0.cls = cL := Option.some.inj ((findClass_of_methodNamed hn).symm.trans hcL)
  obtain ⟨hnameR, hdescR⟩ := name_of_methodNamed hn hrm
  obtain ⟨mk, methM, hnamed, hmethM, -, habM⟩ := Cond.instanceMethod_spec hinst
  obtain ⟨c2, r2, m2, q1, q2, q3, q4, -⟩ := Cond.selects_spec hsel
  cases hcls.symm.trans q1
  cases hfoundL.symm.trans q2
  cases hnamed.symm.trans q3
  have hselP : selectMethod e.platform s.vm cellB.cls r0 = .method mk := by rw [Launch.admits_selectMethod X.admits]; exact q4
  have hpubM : hasFlag methM.accessFlags Acc.public_ = true := Cond.publicMethod_spec hnamed hmethM hpub
  have hway : ((cellB.cls :: s.vm.superclasses cellB.cls).any fun k => (declaredIn s.vm r.name r.desc k).any fun (_, z) => z.isPrivate || z.isStatic) = false := by
    rw [hnameR, hdescR]; exact Cond.unhidden_spec hcls hunh
  obtain ⟨c3, t3, w1, w2, w3⟩ := Cond.castable_spec hcast
  cases hcls.symm.trans w1
  cases hcL.symm.trans w2
  obtain ⟨vm₁, X₁, hstep₁⟩ := X.invokeinterface hexec hown hlink hn hrm hstR (by rw [hr0cls]; exact hkL) hiL hx (a := b) (cell := cellB) (kcell := kB) hcell
    (fun z h => by rw [h] at hobj; cases hobj) hkB (by rw [hr0cls]; exact w3) hselP hmethM hway hpubM habM (g := g) hg (argsL := argsL) (rest := rest) (hlen _ hsigR) hstack hdg
  rcases hK m meth c ⟨T.setVm vm₁, locs, cells, slots⟩ { g with stack := rest } (.invokeinterface index count) mk (Value.ref b :: argsL).toArray X₁ hg hsize hdg hW (X₁.named hnamed) (hpre vm₁ X₁.warmed) with ⟨v, B, X', hpost, hsteps⟩ | ⟨q, B, X', hpost, hsteps⟩
  · exact Or.inl ⟨v, vm₁, B, X₁.warmed, X', hpost, fun target h => hstep₁ _ fun acts => by rw [doInvoke_state]; exact hsteps.trans h⟩
  · exact Or.inr ⟨q, vm₁, B, X₁.warmed, X', hpost, hstep₁ _ fun acts => by rw [doInvoke_state]; exact hsteps⟩
theorem vx_runF {x y : MethodName} {bytes cc : ByteArray} {maxL nL mc ms n index count : Nat} {ret : Option FieldType} {ws : List Cond} {rm : Room} {Pc : Array Value → State → Prop} {Qc : Array Value → State → Outcome → State → Prop} {XC : String → State → State → Prop} {free : Addr → Prop} {Ts : List Cond} {own C : String} {cC : ClassId} {b : Addr} {As rest : List Value} {g : JFrame}
    (hat : ClassAt s C cC) (S : CallFix p m c cc nL s args Ts own) (hM : vx_Met l y ws rm Pc Qc XC mc ms free) (cw : va_CI R s args own C index x y bytes maxL ret ws rm mc ms n) (hp : PreV s H C b Pc As)
    (hg : g.method = m) (hn : As.length = n) (hsize : g.locals.size = nL) (hstack : g.stack = As.reverse ++ .ref b :: rest) (hW : 2 * g.monitorRoom + (rest.map fun v => v.category).sum ≤ 8) (hdg : decode cc g.pc = .ok (.invokeinterface index count, 5)) (hf : cells + mc ≤ R.cells ∧ slots + ms ≤ R.slots) :
    vx_Run5 p l e R s m args below meth c H locs cells slots mc ms g rest (Qc (Value.ref b :: As).toArray) XC free := by
  obtain ⟨hrc, hrs, hfr, hlo, hws, hcw⟩ := cw.back
  have hini := cw.init
  have hK : vx_Back l R p e below s args y 5 8 (PreOf R mc ms Pc) (PostOf Qc mc ms free) (vx_Post XC mc ms free) := vx_back (bytes := bytes) (maxL := maxL) (ret := ret) hM hp.1 hrc hrs hfr hlo hws hcw (fun a' U hW => word_at hW (Or.inl (by first | rfl | simp [Cond.onTables, Cond.keeps, Cond.steady])) hini)
  obtain ⟨hx, hb, hml, ho, -⟩ := S
  obtain ⟨-, ⟨cellB, hcB, hoB, hclB⟩, hPc⟩ := hp
  obtain ⟨hfc, kB, hkB, -⟩ := hat
  cases hfc.symm.trans hclB
  intro T hT X
  rcases vx_callIF X hx (C := C) (bytes := bytes) (maxL := maxL) (ret := ret) ho cw.link cw.decl cw.face cw.sel cw.inst cw.pub cw.unh cw.cast cw.code cw.notMH hK (by rw [hT]; exact hcB) hoB hclB hkB hg (hsize.trans hml.symm) (argsL := As) (rest := rest) (fun sig h => hn.trans (cw.len sig h)) hstack hW (by rw [hb]; exact hdg)
    (fun vm₁ hW₁ => ⟨hf.1, hf.2, hPc (T.setVm vm₁) hT hW₁⟩) with ⟨v, vm₁, ⟨U', l2, c2, s2⟩, hW₁, X', ⟨g', mk, t, L, e1, e2, hq, h1, hL, h2, h3⟩, st⟩ | ⟨q, vm₁, ⟨U', l2, c2, s2⟩, hW₁, X', ⟨g', mk, t, L, E, ce, e1, e2, hq, hce, hcv, hcl, h1, hL, h2, h3⟩, st⟩
  · dsimp only [Pt.U, Pt.locs, Pt.cells, Pt.slots] at X' e1 e2 h1 h2 h3 st
    subst h1; subst h2; subst h3
    exact Or.inl ⟨v, (T.setVm vm₁).calling g' mk (Value.ref b :: As).toArray, t, U', L, hT, X', hL, e1, e2, hq, st⟩
  · dsimp only [Pt.U, Pt.locs, Pt.cells, Pt.slots] at X' e1 e2 h1 h2 h3 st hcl
    subst h1; subst h2; subst h3
    exact Or.inr ⟨q, (T.setVm vm₁).calling g' mk (Value.ref b :: As).toArray, t, U', L, E, ce, hT, X', hL, e1, e2, hq, hce, hcv, vx_cls hW₁ hcl, st⟩
theorem vx_callFv {S SX : Type} {post : S → Prop} {px : SX → Prop} {B : S → State → Prop} {BX : String → SX → State → Prop} {AX : Nat → Prop} (hr : vx_Run5 p l e R s m args below meth c H locs cells slots mc ms (F0 m pc ls st0) rest (va_Qv post B A1 a) (vx_X px BX AX) free) (hS : va_S A0 H0 H locs) (hA : ∀ q, q < H.size → A1 q → A0 q) (hf : ∀ q, free q → A0 q) (hAX : ∀ q, q < H.size → AX q → A0 q)
    (kx : ∀ (E : String) (ce : Cell) (q9 : Addr) (u : SX) (t : State) (H1 : Heap) (locs1 : List Loc), t.heap = H1 → s.vm.Alike t.vm → px u → BX E u t → H.size ≤ H1.size → (∀ q : Nat, q < H.size → ¬ AX q → H1[q]? = H[q]?) → va_S A0 H0 H1 locs1 → H1[q9]? = some ce → ce.vm = .none → s.vm.findClass E = some ce.cls → vx_W p l e R s m args below meth c H1 locs1 (cells + mc) (slots + ms) Q (F0 m pc ls rest) q9)
    (kk : ∀ (u : S) (t : State) (H1 : Heap) (locs1 : List Loc), t.heap = H1 → s.vm.Alike t.vm → post u → B u t → H.size ≤ H1.size → (∀ q : Nat, q < H.size → ¬ A1 q → H1[q]? = H[q]?) → va_S A0 H0 H1 locs1 → W p l e R s m args below meth c H1 locs1 (cells + mc) (slots + ms) Q (F0 m (pc + 5) ls (rest))) : W p l e R s m args below meth c H locs cells slots Q (F0 m pc ls st0) := by
  intro T hT X
  rcases hr T hT X with ⟨v, st₀, t, T', L, h0, X', hL, e1, e2, ⟨⟨u, hv, hp, hb⟩, hF⟩, st⟩ | ⟨q, st₀, t, T', L, E, ce, h0, X', hL, e1, e2, ⟨u, hp, hb, hF⟩, hce, hcv, hcl, st⟩
  · cases hv
    obtain ⟨k1, k2, k3⟩ := vx_keep h0 e1 hS hA hf hL hF
    obtain ⟨t2, a1, b1⟩ := kk u t T'.heap (locs ++ L) e1.symm (by rw [← e2]; exact X'.warmed.alike) hp hb k1 k2 k3 T' rfl X'
    exact ⟨t2, st t2 a1, b1⟩
  · obtain ⟨k1, k2, k3⟩ := vx_keep h0 e1 hS hAX hf hL hF
    obtain ⟨t2, a1, b1⟩ := kx E ce q u t T'.heap (locs ++ L) e1.symm (by rw [← e2]; exact X'.warmed.alike) hp hb k1 k2 k3 (by rw [e1]; exact hce) hcv hcl T' rfl X'
    exact ⟨t2, st.trans a1, b1⟩
theorem vx_callFi {S SX : Type} {post : Int32 → S → Prop} {px : SX → Prop} {B : S → State → Prop} {BX : String → SX → State → Prop} {AX : Nat → Prop} (hr : vx_Run5 p l e R s m args below meth c H locs cells slots mc ms (F0 m pc ls st0) rest (va_Qi post B A1 a) (vx_X px BX AX) free) (hS : va_S A0 H0 H locs) (hA : ∀ q, q < H.size → A1 q → A0 q) (hf : ∀ q, free q → A0 q) (hAX : ∀ q, q < H.size → AX q → A0 q)
    (kx : ∀ (E : String) (ce : Cell) (q9 : Addr) (u : SX) (t : State) (H1 : Heap) (locs1 : List Loc), t.heap = H1 → s.vm.Alike t.vm → px u → BX E u t → H.size ≤ H1.size → (∀ q : Nat, q < H.size → ¬ AX q → H1[q]? = H[q]?) → va_S A0 H0 H1 locs1 → H1[q9]? = some ce → ce.vm = .none → s.vm.findClass E = some ce.cls → vx_W p l e R s m args below meth c H1 locs1 (cells + mc) (slots + ms) Q (F0 m pc ls rest) q9)
    (kk : ∀ (r : Int32) (u : S) (t : State) (H1 : Heap) (locs1 : List Loc), t.heap = H1 → s.vm.Alike t.vm → post r u → B u t → H.size ≤ H1.size → (∀ q : Nat, q < H.size → ¬ A1 q → H1[q]? = H[q]?) → va_S A0 H0 H1 locs1 → W p l e R s m args below meth c H1 locs1 (cells + mc) (slots + ms) Q (F0 m (pc + 5) ls (.int r :: rest))) : W p l e R s m args below meth c H locs cells slots Q (F0 m pc ls st0) := by
  intro T hT X
  rcases hr T hT X with ⟨v, st₀, t, T', L, h0, X', hL, e1, e2, ⟨⟨r, u, hv, hp, hb⟩, hF⟩, st⟩ | ⟨q, st₀, t, T', L, E, ce, h0, X', hL, e1, e2, ⟨u, hp, hb, hF⟩, hce, hcv, hcl, st⟩
  · cases hv
    obtain ⟨k1, k2, k3⟩ := vx_keep h0 e1 hS hA hf hL hF
    obtain ⟨t2, a1, b1⟩ := kk r u t T'.heap (locs ++ L) e1.symm (by rw [← e2]; exact X'.warmed.alike) hp hb k1 k2 k3 T' rfl X'
    exact ⟨t2, st t2 a1, b1⟩
  · obtain ⟨k1, k2, k3⟩ := vx_keep h0 e1 hS hAX hf hL hF
    obtain ⟨t2, a1, b1⟩ := kx E ce q u t T'.heap (locs ++ L) e1.symm (by rw [← e2]; exact X'.warmed.alike) hp hb k1 k2 k3 (by rw [e1]; exact hce) hcv hcl T' rfl X'
    exact ⟨t2, st.trans a1, b1⟩
theorem vx_callFl {S SX : Type} {post : Int64 → S → Prop} {px : SX → Prop} {B : S → State → Prop} {BX : String → SX → State → Prop} {AX : Nat → Prop} (hr : vx_Run5 p l e R s m args below meth c H locs cells slots mc ms (F0 m pc ls st0) rest (va_Ql post B A1 a) (vx_X px BX AX) free) (hS : va_S A0 H0 H locs) (hA : ∀ q, q < H.size → A1 q → A0 q) (hf : ∀ q, free q → A0 q) (hAX : ∀ q, q < H.size → AX q → A0 q)
    (kx : ∀ (E : String) (ce : Cell) (q9 : Addr) (u : SX) (t : State) (H1 : Heap) (locs1 : List Loc), t.heap = H1 → s.vm.Alike t.vm → px u → BX E u t → H.size ≤ H1.size → (∀ q : Nat, q < H.size → ¬ AX q → H1[q]? = H[q]?) → va_S A0 H0 H1 locs1 → H1[q9]? = some ce → ce.vm = .none → s.vm.findClass E = some ce.cls → vx_W p l e R s m args below meth c H1 locs1 (cells + mc) (slots + ms) Q (F0 m pc ls rest) q9)
    (kk : ∀ (r : Int64) (u : S) (t : State) (H1 : Heap) (locs1 : List Loc), t.heap = H1 → s.vm.Alike t.vm → post r u → B u t → H.size ≤ H1.size → (∀ q : Nat, q < H.size → ¬ A1 q → H1[q]? = H[q]?) → va_S A0 H0 H1 locs1 → W p l e R s m args below meth c H1 locs1 (cells + mc) (slots + ms) Q (F0 m (pc + 5) ls (.long r :: rest))) : W p l e R s m args below meth c H locs cells slots Q (F0 m pc ls st0) := by
  intro T hT X
  rcases hr T hT X with ⟨v, st₀, t, T', L, h0, X', hL, e1, e2, ⟨⟨r, u, hv, hp, hb⟩, hF⟩, st⟩ | ⟨q, st₀, t, T', L, E, ce, h0, X', hL, e1, e2, ⟨u, hp, hb, hF⟩, hce, hcv, hcl, st⟩
  · cases hv
    obtain ⟨k1, k2, k3⟩ := vx_keep h0 e1 hS hA hf hL hF
    obtain ⟨t2, a1, b1⟩ := kk r u t T'.heap (locs ++ L) e1.symm (by rw [← e2]; exact X'.warmed.alike) hp hb k1 k2 k3 T' rfl X'
    exact ⟨t2, st t2 a1, b1⟩
  · obtain ⟨k1, k2, k3⟩ := vx_keep h0 e1 hS hAX hf hL hF
    obtain ⟨t2, a1, b1⟩ := kx E ce q u t T'.heap (locs ++ L) e1.symm (by rw [← e2]; exact X'.warmed.alike) hp hb k1 k2 k3 (by rw [e1]; exact hce) hcv hcl T' rfl X'
    exact ⟨t2, st.trans a1, b1⟩
theorem vx_callFf {S SX : Type} {post : UInt32 → S → Prop} {px : SX → Prop} {B : S → State → Prop} {BX : String → SX → State → Prop} {AX : Nat → Prop} (hr : vx_Run5 p l e R s m args below meth c H locs cells slots mc ms (F0 m pc ls st0) rest (va_Qf post B A1 a) (vx_X px BX AX) free) (hS : va_S A0 H0 H locs) (hA : ∀ q, q < H.size → A1 q → A0 q) (hf : ∀ q, free q → A0 q) (hAX : ∀ q, q < H.size → AX q → A0 q)
    (kx : ∀ (E : String) (ce : Cell) (q9 : Addr) (u : SX) (t : State) (H1 : Heap) (locs1 : List Loc), t.heap = H1 → s.vm.Alike t.vm → px u → BX E u t → H.size ≤ H1.size → (∀ q : Nat, q < H.size → ¬ AX q → H1[q]? = H[q]?) → va_S A0 H0 H1 locs1 → H1[q9]? = some ce → ce.vm = .none → s.vm.findClass E = some ce.cls → vx_W p l e R s m args below meth c H1 locs1 (cells + mc) (slots + ms) Q (F0 m pc ls rest) q9)
    (kk : ∀ (r : UInt32) (u : S) (t : State) (H1 : Heap) (locs1 : List Loc), t.heap = H1 → s.vm.Alike t.vm → post r u → B u t → H.size ≤ H1.size → (∀ q : Nat, q < H.size → ¬ A1 q → H1[q]? = H[q]?) → va_S A0 H0 H1 locs1 → W p l e R s m args below meth c H1 locs1 (cells + mc) (slots + ms) Q (F0 m (pc + 5) ls (.float r :: rest))) : W p l e R s m args below meth c H locs cells slots Q (F0 m pc ls st0) := by
  intro T hT X
  rcases hr T hT X with ⟨v, st₀, t, T', L, h0, X', hL, e1, e2, ⟨⟨r, u, hv, hp, hb⟩, hF⟩, st⟩ | ⟨q, st₀, t, T', L, E, ce, h0, X', hL, e1, e2, ⟨u, hp, hb, hF⟩, hce, hcv, hcl, st⟩
  · cases hv
    obtain ⟨k1, k2, k3⟩ := vx_keep h0 e1 hS hA hf hL hF
    obtain ⟨t2, a1, b1⟩ := kk r u t T'.heap (locs ++ L) e1.symm (by rw [← e2]; exact X'.warmed.alike) hp hb k1 k2 k3 T' rfl X'
    exact ⟨t2, st t2 a1, b1⟩
  · obtain ⟨k1, k2, k3⟩ := vx_keep h0 e1 hS hAX hf hL hF
    obtain ⟨t2, a1, b1⟩ := kx E ce q u t T'.heap (locs ++ L) e1.symm (by rw [← e2]; exact X'.warmed.alike) hp hb k1 k2 k3 (by rw [e1]; exact hce) hcv hcl T' rfl X'
    exact ⟨t2, st.trans a1, b1⟩
theorem vx_callFd {S SX : Type} {post : UInt64 → S → Prop} {px : SX → Prop} {B : S → State → Prop} {BX : String → SX → State → Prop} {AX : Nat → Prop} (hr : vx_Run5 p l e R s m args below meth c H locs cells slots mc ms (F0 m pc ls st0) rest (va_Qd post B A1 a) (vx_X px BX AX) free) (hS : va_S A0 H0 H locs) (hA : ∀ q, q < H.size → A1 q → A0 q) (hf : ∀ q, free q → A0 q) (hAX : ∀ q, q < H.size → AX q → A0 q)
    (kx : ∀ (E : String) (ce : Cell) (q9 : Addr) (u : SX) (t : State) (H1 : Heap) (locs1 : List Loc), t.heap = H1 → s.vm.Alike t.vm → px u → BX E u t → H.size ≤ H1.size → (∀ q : Nat, q < H.size → ¬ AX q → H1[q]? = H[q]?) → va_S A0 H0 H1 locs1 → H1[q9]? = some ce → ce.vm = .none → s.vm.findClass E = some ce.cls → vx_W p l e R s m args below meth c H1 locs1 (cells + mc) (slots + ms) Q (F0 m pc ls rest) q9)
    (kk : ∀ (r : UInt64) (u : S) (t : State) (H1 : Heap) (locs1 : List Loc), t.heap = H1 → s.vm.Alike t.vm → post r u → B u t → H.size ≤ H1.size → (∀ q : Nat, q < H.size → ¬ A1 q → H1[q]? = H[q]?) → va_S A0 H0 H1 locs1 → W p l e R s m args below meth c H1 locs1 (cells + mc) (slots + ms) Q (F0 m (pc + 5) ls (.double r :: rest))) : W p l e R s m args below meth c H locs cells slots Q (F0 m pc ls st0) := by
  intro T hT X
  rcases hr T hT X with ⟨v, st₀, t, T', L, h0, X', hL, e1, e2, ⟨⟨r, u, hv, hp, hb⟩, hF⟩, st⟩ | ⟨q, st₀, t, T', L, E, ce, h0, X', hL, e1, e2, ⟨u, hp, hb, hF⟩, hce, hcv, hcl, st⟩
  · cases hv
    obtain ⟨k1, k2, k3⟩ := vx_keep h0 e1 hS hA hf hL hF
    obtain ⟨t2, a1, b1⟩ := kk r u t T'.heap (locs ++ L) e1.symm (by rw [← e2]; exact X'.warmed.alike) hp hb k1 k2 k3 T' rfl X'
    exact ⟨t2, st t2 a1, b1⟩
  · obtain ⟨k1, k2, k3⟩ := vx_keep h0 e1 hS hAX hf hL hF
    obtain ⟨t2, a1, b1⟩ := kx E ce q u t T'.heap (locs ++ L) e1.symm (by rw [← e2]; exact X'.warmed.alike) hp hb k1 k2 k3 (by rw [e1]; exact hce) hcv hcl T' rfl X'
    exact ⟨t2, st.trans a1, b1⟩
end
/-! ===== END ===== -/
/-! ===== BEGIN by an interface, a method with a table of its own that may throw (follows va_callIFW, va_runFW) ===== -/
section
variable {p : Program} {l : Launch} {e : Env} {R : Room} {s : State} {m : MethodId} {args : Array Value} {below : List Frame} {meth : Method} {c : Code} {H : Heap} {locs : List Loc} {cells slots : Nat}
theorem vx_callIFW {T : State} (X : Stand p l e R s m args below meth c T locs cells slots) (hexec : p.tables.exec = Jvm.exec) {own C : String} {index count : Nat} {x y : MethodName} {bytes : ByteArray} {maxL : Nat} {ret : Option FieldType} {hh : List (Nat × Nat × Nat × Nat)}
    (hown : s.vm.findClass own = some m.cls) (hlink : (Cond.methodLink own index x).before args s = true) (hdecl : (Cond.declares x).before args s = true) (hface : (Cond.interfaceMethod x.cls x.cls x.name x.desc).before args s = true)
    (hsel : (Cond.selects C x y).before args s = true) (hinst : (Cond.instanceMethod y).before args s = true) (hpub : (Cond.publicMethod y).before args s = true) (hunh : (Cond.unhidden C x.name x.desc).before args s = true)
    (hcast : (Cond.castable C x.cls).before args s = true) (hcode : (Cond.codeWith y bytes maxL ret hh).before args s = true) (hx : x.cls ≠ "java/lang/invoke/MethodHandle" ∧ x.cls ≠ "java/lang/invoke/VarHandle")
    {W : Nat} {Pre : Pt → Array Value → Prop} {Post : Pt → Array Value → Option Value → Pt → Prop} {PostX : Pt → Array Value → Addr → Pt → Prop} (hK : vx_Back l R p e below s args y 5 W Pre Post PostX)
    {b : Addr} {cellB : Cell} {kB : Class} (hcell : T.heap[b]? = some cellB) (hobj : cellB.vm.isStatics = false) (hcls : s.vm.findClass C = some cellB.cls) (hkB : s.vm.classes[cellB.cls]? = some kB)
    {g : JFrame} (hg : g.method = m) (hsize : g.locals.size = c.maxLocals) {argsL rest : List Value} (hlen : ∀ sig, parseMethodDescriptor x.desc = some sig → argsL.length = sig.parameters.length)
    (hstack : g.stack = argsL.reverse ++ .ref b :: rest) (hW : 2 * g.monitorRoom + (rest.map fun v => v.category).sum ≤ W) (hdg : decode c.code g.pc = .ok (.invokeinterface index count, 5))
    (hpre : ∀ vm₁, s.WarmedH vm₁ → Pre ⟨T.setVm vm₁, locs, cells, slots⟩ (Value.ref b :: argsL).toArray) :
    (∃ (v : Option Value) (vm₁ : Vm) (B : Pt), s.WarmedH vm₁ ∧ Stand p l e R s m args below meth c B.U B.locs B.cells B.slots ∧ Post ⟨T.setVm vm₁, locs, cells, slots⟩ (Value.ref b :: argsL).toArray v B ∧
      ∀ target, Steps p.tables e below (B.U.setTop { g with pc := g.pc + 5, stack := v.toList ++ rest }) target → Steps p.tables e below (T.setTop g) target) ∨
    (∃ (q : Addr) (vm₁ : Vm) (B : Pt), s.WarmedH vm₁ ∧ Stand p l e R s m args below meth c B.U B.locs B.cells B.slots ∧ PostX ⟨T.setVm vm₁, locs, cells, slots⟩ (Value.ref b :: argsL).toArray q B ∧
      Steps p.tables e below (T.setTop g) ((B.U.setTop { g with stack := rest }).pushFrame (.throwing q))) := by
  obtain ⟨r0, r, hn, hrm, hstR, hsigR⟩ := Cond.declares_spec hdecl
  obtain ⟨cL, kL, r1, hcL, hkL, hiL, hfoundL, hn1⟩ := Cond.interfaceMethod_spec hface
  cases hn.symm.trans hn1
  have hr0cls : r0.cls = cL := Option.some.inj ((findClass_of_methodNamed hn).symm.trans hcL)
  obtain ⟨hnameR, hdescR⟩ := name_of_methodNamed hn hrm
  obtain ⟨mk, methM, hnamed, hmethM, -, habM⟩ := Cond.instanceMethod_spec hinst
  obtain ⟨c2, r2, m2, q1, q2, q3, q4, -⟩ := Cond.selects_spec hsel
  cases hcls.symm.trans q1
  cases hfoundL.symm.trans q2
  cases hnamed.symm.trans q3
  have hselP : selectMethod e.platform s.vm cellB.cls r0 = .method mk := by rw [Launch.admits_selectMethod X.admits]; exact q4
  have hpubM : hasFlag methM.accessFlags Acc.public_ = true := Cond.publicMethod_spec hnamed hmethM hpub
  have hway : ((cellB.cls :: s.vm.superclasses cellB.cls).any fun k => (declaredIn s.vm r.name r.desc k).any fun (_, z) => z.isPrivate || z.isStatic) = false := by
    rw [hnameR, hdescR]; exact Cond.unhidden_spec hcls hunh
  obtain ⟨c3, t3, w1, w2, w3⟩ := Cond.castable_spec hcast
  cases hcls.symm.trans w1
  cases hcL.symm.trans w2
  obtain ⟨vm₁, X₁, hstep₁⟩ := X.invokeinterface hexec hown hlink hn hrm hstR (by rw [hr0cls]; exact hkL) hiL hx (a := b) (cell := cellB) (kcell := kB) hcell
    (fun z h => by rw [h] at hobj; cases hobj) hkB (by rw [hr0cls]; exact w3) hselP hmethM hway hpubM habM (g := g) hg (argsL := argsL) (rest := rest) (hlen _ hsigR) hstack hdg
  rcases hK m meth c ⟨T.setVm vm₁, locs, cells, slots⟩ { g with stack := rest } (.invokeinterface index count) mk (Value.ref b :: argsL).toArray X₁ hg hsize hdg hW (X₁.named hnamed) (hpre vm₁ X₁.warmed) with ⟨v, B, X', hpost, hsteps⟩ | ⟨q, B, X', hpost, hsteps⟩
  · exact Or.inl ⟨v, vm₁, B, X₁.warmed, X', hpost, fun target h => hstep₁ _ fun acts => by rw [doInvoke_state]; exact hsteps.trans h⟩
  · exact Or.inr ⟨q, vm₁, B, X₁.warmed, X', hpost, hstep₁ _ fun acts => by rw [doInvoke_state]; exact hsteps⟩
theorem vx_runFW {x y : MethodName} {bytes cc : ByteArray} {maxL nL mc ms n index count : Nat} {ret : Option FieldType} {hh : List (Nat × Nat × Nat × Nat)} {ws : List Cond} {rm : Room} {Pc : Array Value → State → Prop} {Qc : Array Value → State → Outcome → State → Prop} {XC : String → State → State → Prop} {free : Addr → Prop} {Ts : List Cond} {own C : String} {cC : ClassId} {b : Addr} {As rest : List Value} {g : JFrame}
    (hat : ClassAt s C cC) (S : CallFix p m c cc nL s args Ts own) (hM : vx_Met l y ws rm Pc Qc XC mc ms free) (cw : va_CIW R s args own C index x y bytes maxL ret hh ws rm mc ms n) (hp : PreV s H C b Pc As)
    (hg : g.method = m) (hn : As.length = n) (hsize : g.locals.size = nL) (hstack : g.stack = As.reverse ++ .ref b :: rest) (hW : 2 * g.monitorRoom + (rest.map fun v => v.category).sum ≤ 8) (hdg : decode cc g.pc = .ok (.invokeinterface index count, 5)) (hf : cells + mc ≤ R.cells ∧ slots + ms ≤ R.slots) :
    vx_Run5 p l e R s m args below meth c H locs cells slots mc ms g rest (Qc (Value.ref b :: As).toArray) XC free := by
  obtain ⟨hrc, hrs, hfr, hlo, hws, hcw⟩ := cw.back
  have hini := cw.init
  have hK : vx_Back l R p e below s args y 5 8 (PreOf R mc ms Pc) (PostOf Qc mc ms free) (vx_Post XC mc ms free) := vx_backW (hh := hh) (bytes := bytes) (maxL := maxL) (ret := ret) hM hp.1 hrc hrs hfr hlo hws hcw (fun a' U hW => word_at hW (Or.inl (by first | rfl | simp [Cond.onTables, Cond.keeps, Cond.steady])) hini)
  obtain ⟨hx, hb, hml, ho, -⟩ := S
  obtain ⟨-, ⟨cellB, hcB, hoB, hclB⟩, hPc⟩ := hp
  obtain ⟨hfc, kB, hkB, -⟩ := hat
  cases hfc.symm.trans hclB
  intro T hT X
  rcases vx_callIFW X hx (C := C) (hh := hh) (bytes := bytes) (maxL := maxL) (ret := ret) ho cw.link cw.decl cw.face cw.sel cw.inst cw.pub cw.unh cw.cast cw.code cw.notMH hK (by rw [hT]; exact hcB) hoB hclB hkB hg (hsize.trans hml.symm) (argsL := As) (rest := rest) (fun sig h => hn.trans (cw.len sig h)) hstack hW (by rw [hb]; exact hdg)
    (fun vm₁ hW₁ => ⟨hf.1, hf.2, hPc (T.setVm vm₁) hT hW₁⟩) with ⟨v, vm₁, ⟨U', l2, c2, s2⟩, hW₁, X', ⟨g', mk, t, L, e1, e2, hq, h1, hL, h2, h3⟩, st⟩ | ⟨q, vm₁, ⟨U', l2, c2, s2⟩, hW₁, X', ⟨g', mk, t, L, E, ce, e1, e2, hq, hce, hcv, hcl, h1, hL, h2, h3⟩, st⟩
  · dsimp only [Pt.U, Pt.locs, Pt.cells, Pt.slots] at X' e1 e2 h1 h2 h3 st
    subst h1; subst h2; subst h3
    exact Or.inl ⟨v, (T.setVm vm₁).calling g' mk (Value.ref b :: As).toArray, t, U', L, hT, X', hL, e1, e2, hq, st⟩
  · dsimp only [Pt.U, Pt.locs, Pt.cells, Pt.slots] at X' e1 e2 h1 h2 h3 st hcl
    subst h1; subst h2; subst h3
    exact Or.inr ⟨q, (T.setVm vm₁).calling g' mk (Value.ref b :: As).toArray, t, U', L, E, ce, hT, X', hL, e1, e2, hq, hce, hcv, vx_cls hW₁ hcl, st⟩
end
/-! ===== END ===== -/
/-! ===== BEGIN .. of methods that hand back an object of the pool ===== -/
section
variable {p : Program} {l : Launch} {e : Env} {R : Room} {s : State} {m : MethodId} {args : Array Value} {below : List Frame} {meth : Method} {c : Code} {H : Heap} {locs : List Loc} {cells slots : Nat} {Q : State → Prop}
variable {mc ms : Nat} {free : Addr → Prop} {A0 A1 : Nat → Prop} {H0 : Heap} {a : Array Value} {pc : Nat} {ls : Array Slot} {st0 rest : List Value}
theorem vx_callq {S SX : Type} {post : Option Nat → S → Prop} {px : SX → Prop} {B : S → State → Prop} {BX : String → SX → State → Prop} {AX : Nat → Prop} (hr : vx_Run p l e R s m args below meth c H locs cells slots mc ms (F0 m pc ls st0) rest (va_Qq post B A1 a) (vx_X px BX AX) free) (hS : va_S A0 H0 H locs) (hA : ∀ q, q < H.size → A1 q → A0 q) (hf : ∀ q, free q → A0 q) (hAX : ∀ q, q < H.size → AX q → A0 q)
    (kx : ∀ (E : String) (ce : Cell) (q9 : Addr) (u : SX) (t : State) (H1 : Heap) (locs1 : List Loc), t.heap = H1 → s.vm.Alike t.vm → px u → BX E u t → H.size ≤ H1.size → (∀ q : Nat, q < H.size → ¬ AX q → H1[q]? = H[q]?) → va_S A0 H0 H1 locs1 → H1[q9]? = some ce → ce.vm = .none → s.vm.findClass E = some ce.cls → vx_W p l e R s m args below meth c H1 locs1 (cells + mc) (slots + ms) Q (F0 m pc ls rest) q9)
    (kk : ∀ (r : Option Nat) (u : S) (t : State) (H1 : Heap) (locs1 : List Loc), t.heap = H1 → s.vm.Alike t.vm → post r u → B u t → H.size ≤ H1.size → (∀ q : Nat, q < H.size → ¬ A1 q → H1[q]? = H[q]?) → va_S A0 H0 H1 locs1 → W p l e R s m args below meth c H1 locs1 (cells + mc) (slots + ms) Q (F0 m (pc + 3) ls (va_rf r :: rest))) : W p l e R s m args below meth c H locs cells slots Q (F0 m pc ls st0) := by
  intro T hT X
  rcases hr T hT X with ⟨v, st₀, t, T', L, h0, X', hL, e1, e2, ⟨⟨r, u, hv, hp, hb⟩, hF⟩, st⟩ | ⟨q, st₀, t, T', L, E, ce, h0, X', hL, e1, e2, ⟨u, hp, hb, hF⟩, hce, hcv, hcl, st⟩
  · cases hv
    obtain ⟨k1, k2, k3⟩ := vx_keep h0 e1 hS hA hf hL hF
    obtain ⟨t2, a1, b1⟩ := kk r u t T'.heap (locs ++ L) e1.symm (by rw [← e2]; exact X'.warmed.alike) hp hb k1 k2 k3 T' rfl X'
    exact ⟨t2, st t2 a1, b1⟩
  · obtain ⟨k1, k2, k3⟩ := vx_keep h0 e1 hS hAX hf hL hF
    obtain ⟨t2, a1, b1⟩ := kx E ce q u t T'.heap (locs ++ L) e1.symm (by rw [← e2]; exact X'.warmed.alike) hp hb k1 k2 k3 (by rw [e1]; exact hce) hcv hcl T' rfl X'
    exact ⟨t2, st.trans a1, b1⟩
end
/-! ===== END ===== -/
/-! ===== BEGIN .. a constant ===== -/
section
variable {p : Program} {l : Launch} {e : Env} {R : Room} {s : State} {m : MethodId} {args : Array Value} {below : List Frame} {meth : Method} {c : Code} {H : Heap} {locs : List Loc} {cells slots : Nat} {Q : State → Prop}
variable {mc ms : Nat} {free : Addr → Prop} {A0 A1 : Nat → Prop} {H0 : Heap} {a : Array Value} {pc : Nat} {ls : Array Slot} {st0 rest : List Value}
theorem vx_calle {ad : Nat → Nat} {S SX : Type} {post : Option Nat → S → Prop} {px : SX → Prop} {B : S → State → Prop} {BX : String → SX → State → Prop} {AX : Nat → Prop} (hr : vx_Run p l e R s m args below meth c H locs cells slots mc ms (F0 m pc ls st0) rest (va_Qe ad post B A1 a) (vx_X px BX AX) free) (hS : va_S A0 H0 H locs) (hA : ∀ q, q < H.size → A1 q → A0 q) (hf : ∀ q, free q → A0 q) (hAX : ∀ q, q < H.size → AX q → A0 q)
    (kx : ∀ (E : String) (ce : Cell) (q9 : Addr) (u : SX) (t : State) (H1 : Heap) (locs1 : List Loc), t.heap = H1 → s.vm.Alike t.vm → px u → BX E u t → H.size ≤ H1.size → (∀ q : Nat, q < H.size → ¬ AX q → H1[q]? = H[q]?) → va_S A0 H0 H1 locs1 → H1[q9]? = some ce → ce.vm = .none → s.vm.findClass E = some ce.cls → vx_W p l e R s m args below meth c H1 locs1 (cells + mc) (slots + ms) Q (F0 m pc ls rest) q9)
    (kk : ∀ (r : Option Nat) (u : S) (t : State) (H1 : Heap) (locs1 : List Loc), t.heap = H1 → s.vm.Alike t.vm → post r u → B u t → H.size ≤ H1.size → (∀ q : Nat, q < H.size → ¬ A1 q → H1[q]? = H[q]?) → va_S A0 H0 H1 locs1 → W p l e R s m args below meth c H1 locs1 (cells + mc) (slots + ms) Q (F0 m (pc + 3) ls (va_re ad r :: rest))) : W p l e R s m args below meth c H locs cells slots Q (F0 m pc ls st0) := by
  intro T hT X
  rcases hr T hT X with ⟨v, st₀, t, T', L, h0, X', hL, e1, e2, ⟨⟨r, u, hv, hp, hb⟩, hF⟩, st⟩ | ⟨q, st₀, t, T', L, E, ce, h0, X', hL, e1, e2, ⟨u, hp, hb, hF⟩, hce, hcv, hcl, st⟩
  · cases hv
    obtain ⟨k1, k2, k3⟩ := vx_keep h0 e1 hS hA hf hL hF
    obtain ⟨t2, a1, b1⟩ := kk r u t T'.heap (locs ++ L) e1.symm (by rw [← e2]; exact X'.warmed.alike) hp hb k1 k2 k3 T' rfl X'
    exact ⟨t2, st t2 a1, b1⟩
  · obtain ⟨k1, k2, k3⟩ := vx_keep h0 e1 hS hAX hf hL hF
    obtain ⟨t2, a1, b1⟩ := kx E ce q u t T'.heap (locs ++ L) e1.symm (by rw [← e2]; exact X'.warmed.alike) hp hb k1 k2 k3 (by rw [e1]; exact hce) hcv hcl T' rfl X'
    exact ⟨t2, st.trans a1, b1⟩
end
/-! ===== END ===== -/
/-! ===== BEGIN .. by an interface, an object ===== -/
section
variable {p : Program} {l : Launch} {e : Env} {R : Room} {s : State} {m : MethodId} {args : Array Value} {below : List Frame} {meth : Method} {c : Code} {H : Heap} {locs : List Loc} {cells slots : Nat} {Q : State → Prop}
variable {mc ms : Nat} {free : Addr → Prop} {A0 A1 : Nat → Prop} {H0 : Heap} {a : Array Value} {pc : Nat} {ls : Array Slot} {st0 rest : List Value}
theorem vx_callFq {S SX : Type} {post : Option Nat → S → Prop} {px : SX → Prop} {B : S → State → Prop} {BX : String → SX → State → Prop} {AX : Nat → Prop} (hr : vx_Run5 p l e R s m args below meth c H locs cells slots mc ms (F0 m pc ls st0) rest (va_Qq post B A1 a) (vx_X px BX AX) free) (hS : va_S A0 H0 H locs) (hA : ∀ q, q < H.size → A1 q → A0 q) (hf : ∀ q, free q → A0 q) (hAX : ∀ q, q < H.size → AX q → A0 q)
    (kx : ∀ (E : String) (ce : Cell) (q9 : Addr) (u : SX) (t : State) (H1 : Heap) (locs1 : List Loc), t.heap = H1 → s.vm.Alike t.vm → px u → BX E u t → H.size ≤ H1.size → (∀ q : Nat, q < H.size → ¬ AX q → H1[q]? = H[q]?) → va_S A0 H0 H1 locs1 → H1[q9]? = some ce → ce.vm = .none → s.vm.findClass E = some ce.cls → vx_W p l e R s m args below meth c H1 locs1 (cells + mc) (slots + ms) Q (F0 m pc ls rest) q9)
    (kk : ∀ (r : Option Nat) (u : S) (t : State) (H1 : Heap) (locs1 : List Loc), t.heap = H1 → s.vm.Alike t.vm → post r u → B u t → H.size ≤ H1.size → (∀ q : Nat, q < H.size → ¬ A1 q → H1[q]? = H[q]?) → va_S A0 H0 H1 locs1 → W p l e R s m args below meth c H1 locs1 (cells + mc) (slots + ms) Q (F0 m (pc + 5) ls (va_rf r :: rest))) : W p l e R s m args below meth c H locs cells slots Q (F0 m pc ls st0) := by
  intro T hT X
  rcases hr T hT X with ⟨v, st₀, t, T', L, h0, X', hL, e1, e2, ⟨⟨r, u, hv, hp, hb⟩, hF⟩, st⟩ | ⟨q, st₀, t, T', L, E, ce, h0, X', hL, e1, e2, ⟨u, hp, hb, hF⟩, hce, hcv, hcl, st⟩
  · cases hv
    obtain ⟨k1, k2, k3⟩ := vx_keep h0 e1 hS hA hf hL hF
    obtain ⟨t2, a1, b1⟩ := kk r u t T'.heap (locs ++ L) e1.symm (by rw [← e2]; exact X'.warmed.alike) hp hb k1 k2 k3 T' rfl X'
    exact ⟨t2, st t2 a1, b1⟩
  · obtain ⟨k1, k2, k3⟩ := vx_keep h0 e1 hS hAX hf hL hF
    obtain ⟨t2, a1, b1⟩ := kx E ce q u t T'.heap (locs ++ L) e1.symm (by rw [← e2]; exact X'.warmed.alike) hp hb k1 k2 k3 (by rw [e1]; exact hce) hcv hcl T' rfl X'
    exact ⟨t2, st.trans a1, b1⟩
end
/-! ===== END ===== -/
/-! ===== BEGIN .. by an interface, a constant ===== -/
section
variable {p : Program} {l : Launch} {e : Env} {R : Room} {s : State} {m : MethodId} {args : Array Value} {below : List Frame} {meth : Method} {c : Code} {H : Heap} {locs : List Loc} {cells slots : Nat} {Q : State → Prop}
variable {mc ms : Nat} {free : Addr → Prop} {A0 A1 : Nat → Prop} {H0 : Heap} {a : Array Value} {pc : Nat} {ls : Array Slot} {st0 rest : List Value}
theorem vx_callFe {ad : Nat → Nat} {S SX : Type} {post : Option Nat → S → Prop} {px : SX → Prop} {B : S → State → Prop} {BX : String → SX → State → Prop} {AX : Nat → Prop} (hr : vx_Run5 p l e R s m args below meth c H locs cells slots mc ms (F0 m pc ls st0) rest (va_Qe ad post B A1 a) (vx_X px BX AX) free) (hS : va_S A0 H0 H locs) (hA : ∀ q, q < H.size → A1 q → A0 q) (hf : ∀ q, free q → A0 q) (hAX : ∀ q, q < H.size → AX q → A0 q)
    (kx : ∀ (E : String) (ce : Cell) (q9 : Addr) (u : SX) (t : State) (H1 : Heap) (locs1 : List Loc), t.heap = H1 → s.vm.Alike t.vm → px u → BX E u t → H.size ≤ H1.size → (∀ q : Nat, q < H.size → ¬ AX q → H1[q]? = H[q]?) → va_S A0 H0 H1 locs1 → H1[q9]? = some ce → ce.vm = .none → s.vm.findClass E = some ce.cls → vx_W p l e R s m args below meth c H1 locs1 (cells + mc) (slots + ms) Q (F0 m pc ls rest) q9)
    (kk : ∀ (r : Option Nat) (u : S) (t : State) (H1 : Heap) (locs1 : List Loc), t.heap = H1 → s.vm.Alike t.vm → post r u → B u t → H.size ≤ H1.size → (∀ q : Nat, q < H.size → ¬ A1 q → H1[q]? = H[q]?) → va_S A0 H0 H1 locs1 → W p l e R s m args below meth c H1 locs1 (cells + mc) (slots + ms) Q (F0 m (pc + 5) ls (va_re ad r :: rest))) : W p l e R s m args below meth c H locs cells slots Q (F0 m pc ls st0) := by
  intro T hT X
  rcases hr T hT X with ⟨v, st₀, t, T', L, h0, X', hL, e1, e2, ⟨⟨r, u, hv, hp, hb⟩, hF⟩, st⟩ | ⟨q, st₀, t, T', L, E, ce, h0, X', hL, e1, e2, ⟨u, hp, hb, hF⟩, hce, hcv, hcl, st⟩
  · cases hv
    obtain ⟨k1, k2, k3⟩ := vx_keep h0 e1 hS hA hf hL hF
    obtain ⟨t2, a1, b1⟩ := kk r u t T'.heap (locs ++ L) e1.symm (by rw [← e2]; exact X'.warmed.alike) hp hb k1 k2 k3 T' rfl X'
    exact ⟨t2, st t2 a1, b1⟩
  · obtain ⟨k1, k2, k3⟩ := vx_keep h0 e1 hS hAX hf hL hF
    obtain ⟨t2, a1, b1⟩ := kx E ce q u t T'.heap (locs ++ L) e1.symm (by rw [← e2]; exact X'.warmed.alike) hp hb k1 k2 k3 (by rw [e1]; exact hce) hcv hcl T' rfl X'
    exact ⟨t2, st.trans a1, b1⟩
end
/-! ===== END ===== -/
/-! ===== BEGIN what the machine throws by itself: null at a field, at athrow ===== -/
section VXM2
variable {p : Program} {l : Launch} {e : Env} {R : Room} {s : State} {m : MethodId} {args : Array Value} {below : List Frame} {meth : Method} {c : Code} {H : Heap} {locs : List Loc} {cells slots : Nat}
variable {Q : State → Prop} {cc : ByteArray} {pc : Nat} {ls : Array Slot} {rest : List Value}
theorem vx_getfN {D cl tys} {own ref C : String} {T : u_T} {N ci index : Nat} {Ts : List Cond} (hexec : p.tables.exec = Jvm.exec) (hb : c.code = cc) (hts : ∀ w ∈ Ts, w.before args s = true) (hin : ∀ w ∈ u_ws C T N, w ∈ Ts) (hown : s.vm.findClass own = some m.cls) (hK : va_K D cl tys s) (hc : cl[ci]? = some (C, T, N)) (k : Nat) (hk : k < N) (hlink : (Cond.fieldLink own index ref (T k).2.1 (T k).2.2.1).before args s = true) (hsame : ∀ x, s.fieldFound? (T k).1 (T k).2.1 (T k).2.2.1 = some x → s.fieldFound? ref (T k).2.1 (T k).2.2.1 = some x) (hdg : decode cc pc = .ok (.getfield index, 3)) (kk : vx_NoteN p l e R s m args below meth c H locs cells slots Q (F0 m pc ls rest)) : W p l e R s m args below meth c H locs cells slots Q (F0 m pc ls (.null :: rest)) := by
  obtain ⟨hS, hfc, kC, hkC, -⟩ := hK.1 ci _ hc
  obtain ⟨cf, kf, fi, f, hi, -⟩ := hS k hk
  intro U hU X
  obtain ⟨vm', X1, st1⟩ := X.getfieldNull hexec hown hlink (hsame _ hi) (u_facts hfc hkC (u_lays hts hin hk) hi).1 (g := F0 m pc ls (.null :: rest)) rfl (rest := rest) rfl (by rw [hb]; exact hdg)
  obtain ⟨t, st, q⟩ := kk (U.setVm vm') hU X1
  exact ⟨t, st1 t st, q⟩
theorem vx_getfNN {D cl tys} {own ref C host : String} {T : u_T} {N ci index : Nat} {Ts : List Cond} (hexec : p.tables.exec = Jvm.exec) (hb : c.code = cc) (hts : ∀ w ∈ Ts, w.before args s = true) (hin : ∀ w ∈ u_ws C T N, w ∈ Ts) (hown : s.vm.findClass own = some m.cls) (hK : va_K D cl tys s) (hc : cl[ci]? = some (C, T, N)) (k : Nat) (hk : k < N) (hlink : (Cond.fieldLinkNest own index ref (T k).2.1 (T k).2.2.1 host).before args s = true) (hsame : ∀ x, s.fieldFound? (T k).1 (T k).2.1 (T k).2.2.1 = some x → s.fieldFound? ref (T k).2.1 (T k).2.2.1 = some x) (hdg : decode cc pc = .ok (.getfield index, 3)) (kk : vx_NoteN p l e R s m args below meth c H locs cells slots Q (F0 m pc ls rest)) : W p l e R s m args below meth c H locs cells slots Q (F0 m pc ls (.null :: rest)) := by
  obtain ⟨hS, hfc, kC, hkC, -⟩ := hK.1 ci _ hc
  obtain ⟨cf, kf, fi, f, hi, -⟩ := hS k hk
  intro U hU X
  obtain ⟨vm', X1, st1⟩ := X.getfieldNullNest hexec hown hlink (hsame _ hi) (u_facts hfc hkC (u_lays hts hin hk) hi).1 (g := F0 m pc ls (.null :: rest)) rfl (rest := rest) rfl (by rw [hb]; exact hdg)
  obtain ⟨t, st, q⟩ := kk (U.setVm vm') hU X1
  exact ⟨t, st1 t st, q⟩
theorem vx_putfN {D cl tys} {own ref C : String} {T : u_T} {N ci index : Nat} {Ts : List Cond} (hexec : p.tables.exec = Jvm.exec) (hb : c.code = cc) (hts : ∀ w ∈ Ts, w.before args s = true) (hin : ∀ w ∈ u_ws C T N, w ∈ Ts) (hown : s.vm.findClass own = some m.cls) (hK : va_K D cl tys s) (hc : cl[ci]? = some (C, T, N)) (k : Nat) (hk : k < N) (hlink : (Cond.fieldLink own index ref (T k).2.1 (T k).2.2.1).before args s = true) (hsame : ∀ x, s.fieldFound? (T k).1 (T k).2.1 (T k).2.2.1 = some x → s.fieldFound? ref (T k).2.1 (T k).2.2.1 = some x) (hfin : (T k).2.2.2 = false) {v : Value} (hdg : decode cc pc = .ok (.putfield index, 3)) (kk : vx_NoteN p l e R s m args below meth c H locs cells slots Q (F0 m pc ls rest)) : W p l e R s m args below meth c H locs cells slots Q (F0 m pc ls (v :: .null :: rest)) := by
  obtain ⟨hS, hfc, kC, hkC, -⟩ := hK.1 ci _ hc
  obtain ⟨cf, kf, fi, f, hi, -⟩ := hS k hk
  have hlay := hts _ (hin _ (u_in_lay hk))
  unfold u_lay at hlay
  rw [if_neg (by rw [hfin]; decide)] at hlay
  obtain ⟨c9, k9, cf9, kf9, fi9, f9, -, -, hi9, hst9, hnf9, -⟩ := Cond.lays_spec hlay
  cases hi.symm.trans hi9
  intro U hU X
  obtain ⟨vm', X1, st1⟩ := X.putfieldNull hexec hown hlink (hsame _ hi) hst9 hnf9 (g := F0 m pc ls (v :: .null :: rest)) rfl (v := v) (rest := rest) rfl (by rw [hb]; exact hdg)
  obtain ⟨t, st, q⟩ := kk (U.setVm vm') hU X1
  exact ⟨t, st1 t st, q⟩
theorem vx_putfNN {D cl tys} {own ref C host : String} {T : u_T} {N ci index : Nat} {Ts : List Cond} (hexec : p.tables.exec = Jvm.exec) (hb : c.code = cc) (hts : ∀ w ∈ Ts, w.before args s = true) (hin : ∀ w ∈ u_ws C T N, w ∈ Ts) (hown : s.vm.findClass own = some m.cls) (hK : va_K D cl tys s) (hc : cl[ci]? = some (C, T, N)) (k : Nat) (hk : k < N) (hlink : (Cond.fieldLinkNest own index ref (T k).2.1 (T k).2.2.1 host).before args s = true) (hsame : ∀ x, s.fieldFound? (T k).1 (T k).2.1 (T k).2.2.1 = some x → s.fieldFound? ref (T k).2.1 (T k).2.2.1 = some x) (hfin : (T k).2.2.2 = false) {v : Value} (hdg : decode cc pc = .ok (.putfield index, 3)) (kk : vx_NoteN p l e R s m args below meth c H locs cells slots Q (F0 m pc ls rest)) : W p l e R s m args below meth c H locs cells slots Q (F0 m pc ls (v :: .null :: rest)) := by
  obtain ⟨hS, hfc, kC, hkC, -⟩ := hK.1 ci _ hc
  obtain ⟨cf, kf, fi, f, hi, -⟩ := hS k hk
  have hlay := hts _ (hin _ (u_in_lay hk))
  unfold u_lay at hlay
  rw [if_neg (by rw [hfin]; decide)] at hlay
  obtain ⟨c9, k9, cf9, kf9, fi9, f9, -, -, hi9, hst9, hnf9, -⟩ := Cond.lays_spec hlay
  cases hi.symm.trans hi9
  intro U hU X
  obtain ⟨vm', X1, st1⟩ := X.putfieldNullNest hexec hown hlink (hsame _ hi) hst9 hnf9 (g := F0 m pc ls (v :: .null :: rest)) rfl (v := v) (rest := rest) rfl (by rw [hb]; exact hdg)
  obtain ⟨t, st, q⟩ := kk (U.setVm vm') hU X1
  exact ⟨t, st1 t st, q⟩
theorem vx_athrowN (hexec : p.tables.exec = Jvm.exec) (hb : c.code = cc) (hdg : decode cc pc = .ok (.athrow, 1)) (k : vx_NoteN p l e R s m args below meth c H locs cells slots Q (F0 m pc ls rest)) : W p l e R s m args below meth c H locs cells slots Q (F0 m pc ls (.null :: rest)) := by
  intro T hT X
  obtain ⟨t, st, q⟩ := k T hT X
  exact ⟨t, X.athrowNull hexec (g := F0 m pc ls (.null :: rest)) rfl (rest := rest) rfl (by rw [hb]; exact hdg) t st, q⟩
end VXM2
/-! ===== END ===== -/
end
section
def RX0 : String := "RollerLeaf$Cells"
def TX0 : u_T := fun k => match k with
  | 0 => ("RollerLeaf$Cells", "columns", "I", true)
  | 1 => ("RollerLeaf$Cells", "rows", "I", true)
  | _ => ("RollerLeaf$Cells", "colours", "[I", true)
def tyX0 : Nat → FieldType := fun k => match k with
  | 0 => .int
  | 1 => .int
  | _ => .array .int
abbrev wsX00 : List Cond := u_ws RX0 TX0 3
theorem nmX0 : ∀ a, a < 3 → ∀ b, b < 3 → a ≠ b → (TX0 a).2.1 ≠ (TX0 b).2.1 := by decide +kernel
theorem tyX0_ok : ∀ k, k < 3 → parseFieldDescriptor (TX0 k).2.2.1 = some (tyX0 k) := by decide +kernel
abbrev cX0_init : ByteArray := prog_2_method_1_code
def yX0_init : MethodName := ⟨RX0, "<init>", "(II)V"⟩
abbrev cX0_holds : ByteArray := prog_2_method_2_code
def yX0_holds : MethodName := ⟨RX0, "holds", "(II)Z"⟩
abbrev cX0_colourAt : ByteArray := prog_2_method_3_code
def yX0_colourAt : MethodName := ⟨RX0, "colourAt", "(II)I"⟩
abbrev cX0_put : ByteArray := prog_2_method_4_code
def yX0_put : MethodName := ⟨RX0, "put", "(III)V"⟩
abbrev cX0_place : ByteArray := prog_2_method_5_code
def yX0_place : MethodName := ⟨RX0, "place", "(II)I"⟩
def RX1 : String := "RollerLeaf$Lot"
def TX1 : u_T := fun k => match k with
  | 0 => ("RollerLeaf$Lot", "roller", "LRollerLeaf$Roller;", true)
  | 1 => ("RollerLeaf$Lot", "rollerNumber", "I", true)
  | 2 => ("RollerLeaf$Lot", "dye", "I", true)
  | 3 => ("RollerLeaf$Lot", "length", "I", true)
  | _ => ("RollerLeaf$Lot", "rollsLeft", "I", false)
def tyX1 : Nat → FieldType := fun k => match k with
  | 0 => .object "RollerLeaf$Roller"
  | 1 => .int
  | 2 => .int
  | 3 => .int
  | _ => .int
abbrev wsX10 : List Cond := u_ws RX1 TX1 5
theorem nmX1 : ∀ a, a < 5 → ∀ b, b < 5 → a ≠ b → (TX1 a).2.1 ≠ (TX1 b).2.1 := by decide +kernel
theorem tyX1_ok : ∀ k, k < 5 → parseFieldDescriptor (TX1 k).2.2.1 = some (tyX1 k) := by decide +kernel
abbrev cX1_init : ByteArray := prog_3_method_1_code
def yX1_init : MethodName := ⟨RX1, "<init>", "(LRollerLeaf$Roller;IIII)V"⟩
abbrev cX1_roundsOfARoll : ByteArray := prog_3_method_2_code
def yX1_roundsOfARoll : MethodName := ⟨RX1, "roundsOfARoll", "()I"⟩
def RX2 : String := "RollerLeaf$OpenedRolls"
def TX2 : u_T := fun k => match k with
  | 0 => ("RollerLeaf$OpenedRolls", "lastCuts", "[I", true)
  | 1 => ("RollerLeaf$OpenedRolls", "opened", "I", false)
  | 2 => ("RollerLeaf$OpenedRolls", "mostOpened", "I", false)
  | 3 => ("RollerLeaf$OpenedRolls", "length", "I", false)
  | 4 => ("RollerLeaf$OpenedRolls", "repeatRows", "I", false)
  | _ => ("RollerLeaf$OpenedRolls", "phase", "I", false)
def tyX2 : Nat → FieldType := fun k => match k with
  | 0 => .array .int
  | 1 => .int
  | 2 => .int
  | 3 => .int
  | 4 => .int
  | _ => .int
abbrev wsX20 : List Cond := u_ws RX2 TX2 6
theorem nmX2 : ∀ a, a < 6 → ∀ b, b < 6 → a ≠ b → (TX2 a).2.1 ≠ (TX2 b).2.1 := by decide +kernel
theorem tyX2_ok : ∀ k, k < 6 → parseFieldDescriptor (TX2 k).2.2.1 = some (tyX2 k) := by decide +kernel
abbrev cX2_init : ByteArray := prog_4_method_1_code
def yX2_init : MethodName := ⟨RX2, "<init>", "()V"⟩
abbrev cX2_beginAnew : ByteArray := prog_4_method_2_code
def yX2_beginAnew : MethodName := ⟨RX2, "beginAnew", "(LRollerLeaf$Lot;I)V"⟩
abbrev cX2_takeDrop : ByteArray := prog_4_method_3_code
def yX2_takeDrop : MethodName := ⟨RX2, "takeDrop", "(I)I"⟩
abbrev cX2_takeFromNewRoll : ByteArray := prog_4_method_4_code
def yX2_takeFromNewRoll : MethodName := ⟨RX2, "takeFromNewRoll", "(I)I"⟩
def RX3 : String := "RollerLeaf$Pattern"
def TX3 : u_T := fun k => match k with
  | 0 => ("RollerLeaf$Pattern", "motif", "LRollerLeaf$Cells;", true)
  | 1 => ("RollerLeaf$Pattern", "symmetry", "I", true)
  | 2 => ("RollerLeaf$Pattern", "repeatColumns", "I", true)
  | _ => ("RollerLeaf$Pattern", "repeatRows", "I", true)
def tyX3 : Nat → FieldType := fun k => match k with
  | 0 => .object "RollerLeaf$Cells"
  | 1 => .int
  | 2 => .int
  | _ => .int
abbrev wsX30 : List Cond := u_ws RX3 TX3 4
theorem nmX3 : ∀ a, a < 4 → ∀ b, b < 4 → a ≠ b → (TX3 a).2.1 ≠ (TX3 b).2.1 := by decide +kernel
theorem tyX3_ok : ∀ k, k < 4 → parseFieldDescriptor (TX3 k).2.2.1 = some (tyX3 k) := by decide +kernel
abbrev cX3_init : ByteArray := prog_5_method_1_code
def yX3_init : MethodName := ⟨RX3, "<init>", "(III)V"⟩
abbrev cX3_colourAt : ByteArray := prog_5_method_2_code
def yX3_colourAt : MethodName := ⟨RX3, "colourAt", "(II)I"⟩
abbrev cX3_flipsColumns : ByteArray := prog_5_method_3_code
def yX3_flipsColumns : MethodName := ⟨RX3, "flipsColumns", "(ZZ)Z"⟩
abbrev cX3_flipsRows : ByteArray := prog_5_method_4_code
def yX3_flipsRows : MethodName := ⟨RX3, "flipsRows", "(ZZ)Z"⟩
abbrev cX3_leastMove : ByteArray := prog_5_method_5_code
def yX3_leastMove : MethodName := ⟨RX3, "leastMove", "(Z)I"⟩
abbrev cX3_staysWhenMoved : ByteArray := prog_5_method_6_code
def yX3_staysWhenMoved : MethodName := ⟨RX3, "staysWhenMoved", "(II)Z"⟩
abbrev cX3_drawn : ByteArray := prog_5_method_7_code
def yX3_drawn : MethodName := ⟨RX3, "drawn", "()LRollerLeaf$Cells;"⟩
def RX4 : String := "RollerLeaf$Roller"
def TX4 : u_T := fun k => match k with
  | 0 => ("RollerLeaf$Roller", "round", "I", true)
  | _ => ("RollerLeaf$Roller", "engraving", "LRollerLeaf$Cells;", true)
def tyX4 : Nat → FieldType := fun k => match k with
  | 0 => .int
  | _ => .object "RollerLeaf$Cells"
abbrev wsX40 : List Cond := u_ws RX4 TX4 2
theorem nmX4 : ∀ a, a < 2 → ∀ b, b < 2 → a ≠ b → (TX4 a).2.1 ≠ (TX4 b).2.1 := by decide +kernel
theorem tyX4_ok : ∀ k, k < 2 → parseFieldDescriptor (TX4 k).2.2.1 = some (tyX4 k) := by decide +kernel
abbrev cX4_init : ByteArray := prog_6_method_1_code
def yX4_init : MethodName := ⟨RX4, "<init>", "(ILRollerLeaf$Cells;)V"⟩
def RX5 : String := "RollerLeaf$Room"
def TX5 : u_T := fun k => match k with
  | 0 => ("RollerLeaf$Room", "walls", "[LRollerLeaf$Wall;", true)
  | 1 => ("RollerLeaf$Room", "rolls", "LRollerLeaf$OpenedRolls;", true)
  | 2 => ("RollerLeaf$Room", "wallCount", "I", false)
  | 3 => ("RollerLeaf$Room", "lot", "LRollerLeaf$Lot;", false)
  | _ => ("RollerLeaf$Room", "lotNumber", "I", false)
def tyX5 : Nat → FieldType := fun k => match k with
  | 0 => .array (.object "RollerLeaf$Wall")
  | 1 => .object "RollerLeaf$OpenedRolls"
  | 2 => .int
  | 3 => .object "RollerLeaf$Lot"
  | _ => .int
abbrev wsX50 : List Cond := u_ws RX5 TX5 5
theorem nmX5 : ∀ a, a < 5 → ∀ b, b < 5 → a ≠ b → (TX5 a).2.1 ≠ (TX5 b).2.1 := by decide +kernel
theorem tyX5_ok : ∀ k, k < 5 → parseFieldDescriptor (TX5 k).2.2.1 = some (tyX5 k) := by decide +kernel
abbrev cX5_init : ByteArray := prog_7_method_1_code
def yX5_init : MethodName := ⟨RX5, "<init>", "()V"⟩
abbrev cX5_isHung : ByteArray := prog_7_method_2_code
def yX5_isHung : MethodName := ⟨RX5, "isHung", "()Z"⟩
abbrev cX5_makeBare : ByteArray := prog_7_method_3_code
def yX5_makeBare : MethodName := ⟨RX5, "makeBare", "()V"⟩
abbrev cX5_addWall : ByteArray := prog_7_method_4_code
def yX5_addWall : MethodName := ⟨RX5, "addWall", "(II)I"⟩
abbrev cX5_bestPhase : ByteArray := prog_7_method_5_code
def yX5_bestPhase : MethodName := ⟨RX5, "bestPhase", "(LRollerLeaf$Lot;)I"⟩
abbrev cX5_cutAll : ByteArray := prog_7_method_6_code
def yX5_cutAll : MethodName := ⟨RX5, "cutAll", "(LRollerLeaf$Lot;I)Z"⟩
abbrev cX5_hangFrom : ByteArray := prog_7_method_7_code
def yX5_hangFrom : MethodName := ⟨RX5, "hangFrom", "(LRollerLeaf$Lot;II)I"⟩
abbrev cX5_lengthenFrom : ByteArray := prog_7_method_8_code
def yX5_lengthenFrom : MethodName := ⟨RX5, "lengthenFrom", "(LRollerLeaf$Lot;LRollerLeaf$Wall;I)Z"⟩
abbrev cX5_allDrops : ByteArray := prog_7_method_9_code
def yX5_allDrops : MethodName := ⟨RX5, "allDrops", "()I"⟩
abbrev cX5_waste : ByteArray := prog_7_method_10_code
def yX5_waste : MethodName := ⟨RX5, "waste", "()I"⟩
def RX6 : String := "RollerLeaf$Wall"
def TX6 : u_T := fun k => match k with
  | 0 => ("RollerLeaf$Wall", "height", "I", true)
  | 1 => ("RollerLeaf$Wall", "cuts", "[I", true)
  | _ => ("RollerLeaf$Wall", "drops", "I", false)
def tyX6 : Nat → FieldType := fun k => match k with
  | 0 => .int
  | 1 => .array .int
  | _ => .int
abbrev wsX60 : List Cond := u_ws RX6 TX6 3
theorem nmX6 : ∀ a, a < 3 → ∀ b, b < 3 → a ≠ b → (TX6 a).2.1 ≠ (TX6 b).2.1 := by decide +kernel
theorem tyX6_ok : ∀ k, k < 3 → parseFieldDescriptor (TX6 k).2.2.1 = some (tyX6 k) := by decide +kernel
abbrev cX6_init : ByteArray := prog_8_method_1_code
def yX6_init : MethodName := ⟨RX6, "<init>", "(II)V"⟩
abbrev cX6_takeDrops : ByteArray := prog_8_method_2_code
def yX6_takeDrops : MethodName := ⟨RX6, "takeDrops", "(LRollerLeaf$OpenedRolls;I)Z"⟩
def RX7 : String := "RollerLeaf"
def TX7 : u_T := fun k => match k with
  | 0 => ("RollerLeaf", "patterns", "[LRollerLeaf$Pattern;", true)
  | 1 => ("RollerLeaf", "patternCount", "I", false)
  | 2 => ("RollerLeaf", "rollers", "[LRollerLeaf$Roller;", true)
  | 3 => ("RollerLeaf", "rollerCount", "I", false)
  | 4 => ("RollerLeaf", "lots", "[LRollerLeaf$Lot;", true)
  | 5 => ("RollerLeaf", "lotCount", "I", false)
  | 6 => ("RollerLeaf", "rooms", "[LRollerLeaf$Room;", true)
  | _ => ("RollerLeaf", "lostRows", "I", false)
def tyX7 : Nat → FieldType := fun k => match k with
  | 0 => .array (.object "RollerLeaf$Pattern")
  | 1 => .int
  | 2 => .array (.object "RollerLeaf$Roller")
  | 3 => .int
  | 4 => .array (.object "RollerLeaf$Lot")
  | 5 => .int
  | 6 => .array (.object "RollerLeaf$Room")
  | _ => .int
abbrev wsX70 : List Cond := u_ws RX7 TX7 8
theorem nmX7 : ∀ a, a < 8 → ∀ b, b < 8 → a ≠ b → (TX7 a).2.1 ≠ (TX7 b).2.1 := by decide +kernel
theorem tyX7_ok : ∀ k, k < 8 → parseFieldDescriptor (TX7 k).2.2.1 = some (tyX7 k) := by decide +kernel
abbrev cX7_init : ByteArray := prog_1_method_1_code
def yX7_init : MethodName := ⟨RX7, "<init>", "()V"⟩
abbrev cX7_pattern : ByteArray := prog_1_method_2_code
def yX7_pattern : MethodName := ⟨RX7, "pattern", "(III)I"⟩
abbrev cX7_paint : ByteArray := prog_1_method_3_code
def yX7_paint : MethodName := ⟨RX7, "paint", "(IIII)I"⟩
abbrev cX7_colour : ByteArray := prog_1_method_4_code
def yX7_colour : MethodName := ⟨RX7, "colour", "(III)I"⟩
abbrev cX7_repeat : ByteArray := prog_1_method_5_code
def yX7_repeat : MethodName := ⟨RX7, "repeat", "(IZ)I"⟩
abbrev cX7_repeatAnew : ByteArray := prog_1_method_6_code
def yX7_repeatAnew : MethodName := ⟨RX7, "repeatAnew", "(IZ)I"⟩
abbrev cX7_roller : ByteArray := prog_1_method_7_code
def yX7_roller : MethodName := ⟨RX7, "roller", "(II)I"⟩
abbrev cX7_lot : ByteArray := prog_1_method_8_code
def yX7_lot : MethodName := ⟨RX7, "lot", "(IIII)I"⟩
abbrev cX7_lotOf : ByteArray := prog_1_method_9_code
def yX7_lotOf : MethodName := ⟨RX7, "lotOf", "(II)I"⟩
abbrev cX7_wall : ByteArray := prog_1_method_10_code
def yX7_wall : MethodName := ⟨RX7, "wall", "(III)I"⟩
abbrev cX7_hang : ByteArray := prog_1_method_11_code
def yX7_hang : MethodName := ⟨RX7, "hang", "(II)I"⟩
abbrev cX7_lengthen : ByteArray := prog_1_method_12_code
def yX7_lengthen : MethodName := ⟨RX7, "lengthen", "(III)I"⟩
abbrev cX7_strip : ByteArray := prog_1_method_13_code
def yX7_strip : MethodName := ⟨RX7, "strip", "(I)I"⟩
abbrev cX7_room : ByteArray := prog_1_method_14_code
def yX7_room : MethodName := ⟨RX7, "room", "(II)I"⟩
abbrev cX7_cut : ByteArray := prog_1_method_15_code
def yX7_cut : MethodName := ⟨RX7, "cut", "(III)I"⟩
abbrev cX7_seen : ByteArray := prog_1_method_16_code
def yX7_seen : MethodName := ⟨RX7, "seen", "(IIII)I"⟩
abbrev cX7_lost : ByteArray := prog_1_method_17_code
def yX7_lost : MethodName := ⟨RX7, "lost", "()I"⟩
abbrev cX7_patternAt : ByteArray := prog_1_method_18_code
def yX7_patternAt : MethodName := ⟨RX7, "patternAt", "(I)LRollerLeaf$Pattern;"⟩
abbrev cX7_rollerAt : ByteArray := prog_1_method_19_code
def yX7_rollerAt : MethodName := ⟨RX7, "rollerAt", "(I)LRollerLeaf$Roller;"⟩
abbrev cX7_lotAt : ByteArray := prog_1_method_20_code
def yX7_lotAt : MethodName := ⟨RX7, "lotAt", "(I)LRollerLeaf$Lot;"⟩
abbrev cX7_roomAt : ByteArray := prog_1_method_21_code
def yX7_roomAt : MethodName := ⟨RX7, "roomAt", "(I)LRollerLeaf$Room;"⟩
abbrev cX7_wallAt : ByteArray := prog_1_method_22_code
def yX7_wallAt : MethodName := ⟨RX7, "wallAt", "(LRollerLeaf$Room;I)LRollerLeaf$Wall;"⟩
abbrev cX7_requireWithin : ByteArray := prog_1_method_23_code
def yX7_requireWithin : MethodName := ⟨RX7, "requireWithin", "(III)V"⟩
abbrev cX7_lose : ByteArray := prog_1_method_24_code
def yX7_lose : MethodName := ⟨RX7, "lose", "(LRollerLeaf$Lot;I)V"⟩
abbrev cX7_wrapped : ByteArray := prog_1_method_25_code
def yX7_wrapped : MethodName := ⟨RX7, "wrapped", "(II)I"⟩
def RX8 : String := "RollerLeafModel"
def TX8 : u_T := fun k => match k with
  | 0 => ("RollerLeafModel", "refusal", "I", false)
  | 1 => ("RollerLeafModel", "patterns", "I", false)
  | 2 => ("RollerLeafModel", "wide", "[I", true)
  | 3 => ("RollerLeafModel", "high", "[I", true)
  | 4 => ("RollerLeafModel", "sort", "[I", true)
  | 5 => ("RollerLeafModel", "motif", "[I", true)
  | 6 => ("RollerLeafModel", "rollers", "I", false)
  | 7 => ("RollerLeafModel", "patternOf", "[I", true)
  | 8 => ("RollerLeafModel", "round", "[I", true)
  | 9 => ("RollerLeafModel", "engraved", "[I", true)
  | 10 => ("RollerLeafModel", "lots", "I", false)
  | 11 => ("RollerLeafModel", "rollerOf", "[I", true)
  | 12 => ("RollerLeafModel", "dye", "[I", true)
  | 13 => ("RollerLeafModel", "rolls", "[I", true)
  | 14 => ("RollerLeafModel", "length", "[I", true)
  | 15 => ("RollerLeafModel", "walls", "[I", true)
  | 16 => ("RollerLeafModel", "drops", "[I", true)
  | 17 => ("RollerLeafModel", "height", "[I", true)
  | 18 => ("RollerLeafModel", "lotOf", "[I", true)
  | 19 => ("RollerLeafModel", "phase", "[I", true)
  | 20 => ("RollerLeafModel", "opened", "[I", true)
  | 21 => ("RollerLeafModel", "ends", "[I", true)
  | 22 => ("RollerLeafModel", "tried", "[I", true)
  | 23 => ("RollerLeafModel", "manyTried", "I", false)
  | 24 => ("RollerLeafModel", "cutRoll", "I", false)
  | 25 => ("RollerLeafModel", "cutRow", "I", false)
  | 26 => ("RollerLeafModel", "cutRolls", "[I", true)
  | 27 => ("RollerLeafModel", "cutRows", "[I", true)
  | _ => ("RollerLeafModel", "lost", "I", false)
def tyX8 : Nat → FieldType := fun k => match k with
  | 0 => .int
  | 1 => .int
  | 2 => .array .int
  | 3 => .array .int
  | 4 => .array .int
  | 5 => .array .int
  | 6 => .int
  | 7 => .array .int
  | 8 => .array .int
  | 9 => .array .int
  | 10 => .int
  | 11 => .array .int
  | 12 => .array .int
  | 13 => .array .int
  | 14 => .array .int
  | 15 => .array .int
  | 16 => .array .int
  | 17 => .array .int
  | 18 => .array .int
  | 19 => .array .int
  | 20 => .array .int
  | 21 => .array .int
  | 22 => .array .int
  | 23 => .int
  | 24 => .int
  | 25 => .int
  | 26 => .array .int
  | 27 => .array .int
  | _ => .int
abbrev wsX80 : List Cond := u_ws RX8 TX8 29
theorem nmX8 : ∀ a, a < 29 → ∀ b, b < 29 → a ≠ b → (TX8 a).2.1 ≠ (TX8 b).2.1 := by decide +kernel
theorem tyX8_ok : ∀ k, k < 29 → parseFieldDescriptor (TX8 k).2.2.1 = some (tyX8 k) := by decide +kernel
abbrev cX8_init : ByteArray := prog_10_method_1_code
def yX8_init : MethodName := ⟨RX8, "<init>", "()V"⟩
abbrev cX8_thrown : ByteArray := prog_10_method_2_code
def yX8_thrown : MethodName := ⟨RX8, "thrown", "()I"⟩
abbrev cX8_refused : ByteArray := prog_10_method_3_code
def yX8_refused : MethodName := ⟨RX8, "refused", "(I)Z"⟩
abbrev cX8_is : ByteArray := prog_10_method_4_code
def yX8_is : MethodName := ⟨RX8, "is", "(III)Z"⟩
abbrev cX8_isPattern : ByteArray := prog_10_method_5_code
def yX8_isPattern : MethodName := ⟨RX8, "isPattern", "(I)Z"⟩
abbrev cX8_pattern : ByteArray := prog_10_method_6_code
def yX8_pattern : MethodName := ⟨RX8, "pattern", "(III)I"⟩
abbrev cX8_paint : ByteArray := prog_10_method_7_code
def yX8_paint : MethodName := ⟨RX8, "paint", "(IIII)I"⟩
abbrev cX8_columns : ByteArray := prog_10_method_8_code
def yX8_columns : MethodName := ⟨RX8, "columns", "(I)I"⟩
abbrev cX8_rows : ByteArray := prog_10_method_9_code
def yX8_rows : MethodName := ⟨RX8, "rows", "(I)I"⟩
abbrev cX8_cell : ByteArray := prog_10_method_10_code
def yX8_cell : MethodName := ⟨RX8, "cell", "(III)I"⟩
abbrev cX8_modulo : ByteArray := prog_10_method_11_code
def yX8_modulo : MethodName := ⟨RX8, "modulo", "(II)I"⟩
abbrev cX8_colourAt : ByteArray := prog_10_method_12_code
def yX8_colourAt : MethodName := ⟨RX8, "colourAt", "(III)I"⟩
abbrev cX8_colour : ByteArray := prog_10_method_13_code
def yX8_colour : MethodName := ⟨RX8, "colour", "(III)I"⟩
abbrev cX8_repeat : ByteArray := prog_10_method_14_code
def yX8_repeat : MethodName := ⟨RX8, "repeat", "(IZ)I"⟩
abbrev cX8_repeatAnew : ByteArray := prog_10_method_15_code
def yX8_repeatAnew : MethodName := ⟨RX8, "repeatAnew", "(IZ)I"⟩
abbrev cX8_holds : ByteArray := prog_10_method_16_code
def yX8_holds : MethodName := ⟨RX8, "holds", "(III)Z"⟩
abbrev cX8_roller : ByteArray := prog_10_method_17_code
def yX8_roller : MethodName := ⟨RX8, "roller", "(II)I"⟩
abbrev cX8_lot : ByteArray := prog_10_method_18_code
def yX8_lot : MethodName := ⟨RX8, "lot", "(IIII)I"⟩
abbrev cX8_lotOf : ByteArray := prog_10_method_19_code
def yX8_lotOf : MethodName := ⟨RX8, "lotOf", "(II)I"⟩
abbrev cX8_rowsOfLot : ByteArray := prog_10_method_20_code
def yX8_rowsOfLot : MethodName := ⟨RX8, "rowsOfLot", "(I)I"⟩
abbrev cX8_isRoom : ByteArray := prog_10_method_21_code
def yX8_isRoom : MethodName := ⟨RX8, "isRoom", "(I)Z"⟩
abbrev cX8_isHung : ByteArray := prog_10_method_22_code
def yX8_isHung : MethodName := ⟨RX8, "isHung", "(I)Z"⟩
abbrev cX8_wall : ByteArray := prog_10_method_23_code
def yX8_wall : MethodName := ⟨RX8, "wall", "(III)I"⟩
abbrev cX8_give : ByteArray := prog_10_method_24_code
def yX8_give : MethodName := ⟨RX8, "give", "(IIII)Z"⟩
abbrev cX8_cutAll : ByteArray := prog_10_method_25_code
def yX8_cutAll : MethodName := ⟨RX8, "cutAll", "(IIIZ)I"⟩
abbrev cX8_hang : ByteArray := prog_10_method_26_code
def yX8_hang : MethodName := ⟨RX8, "hang", "(II)I"⟩
abbrev cX8_keep : ByteArray := prog_10_method_27_code
def yX8_keep : MethodName := ⟨RX8, "keep", "(I)V"⟩
abbrev cX8_lose : ByteArray := prog_10_method_28_code
def yX8_lose : MethodName := ⟨RX8, "lose", "(I)V"⟩
abbrev cX8_isWall : ByteArray := prog_10_method_29_code
def yX8_isWall : MethodName := ⟨RX8, "isWall", "(II)Z"⟩
abbrev cX8_lengthen : ByteArray := prog_10_method_30_code
def yX8_lengthen : MethodName := ⟨RX8, "lengthen", "(III)I"⟩
abbrev cX8_strip : ByteArray := prog_10_method_31_code
def yX8_strip : MethodName := ⟨RX8, "strip", "(I)I"⟩
abbrev cX8_sum : ByteArray := prog_10_method_32_code
def yX8_sum : MethodName := ⟨RX8, "sum", "(IZ)I"⟩
abbrev cX8_room : ByteArray := prog_10_method_33_code
def yX8_room : MethodName := ⟨RX8, "room", "(II)I"⟩
abbrev cX8_cut : ByteArray := prog_10_method_34_code
def yX8_cut : MethodName := ⟨RX8, "cut", "(III)I"⟩
abbrev cX8_seen : ByteArray := prog_10_method_35_code
def yX8_seen : MethodName := ⟨RX8, "seen", "(IIII)I"⟩
abbrev cX8_lost : ByteArray := prog_10_method_36_code
def yX8_lost : MethodName := ⟨RX8, "lost", "()I"⟩
def RJ9 : String := "java/lang/Math"
def TJ9 : u_T := fun k => match k with
  | _ => ("", "", "", false)
def tyJ9 : Nat → FieldType := fun k => match k with
  | _ => .int
abbrev wsJ90 : List Cond := u_ws RJ9 TJ9 0
theorem nmJ9 : ∀ a, a < 0 → ∀ b, b < 0 → a ≠ b → (TJ9 a).2.1 ≠ (TJ9 b).2.1 := by decide +kernel
theorem tyJ9_ok : ∀ k, k < 0 → parseFieldDescriptor (TJ9 k).2.2.1 = some (tyJ9 k) := by decide +kernel
abbrev cJ9_floorMod_7cf53 : ByteArray := prog_15_method_50_code
def yJ9_floorMod_7cf53 : MethodName := ⟨RJ9, "floorMod", "(II)I"⟩
abbrev cJ9_max_7cf53 : ByteArray := prog_15_method_65_code
def yJ9_max_7cf53 : MethodName := ⟨RJ9, "max", "(II)I"⟩
def RJ0 : String := "java/lang/String"
def TJ0 : u_T := fun k => match k with
  | _ => ("", "", "", false)
def tyJ0 : Nat → FieldType := fun k => match k with
  | _ => .int
abbrev wsJ00 : List Cond := u_ws RJ0 TJ0 0
theorem nmJ0 : ∀ a, a < 0 → ∀ b, b < 0 → a ≠ b → (TJ0 a).2.1 ≠ (TJ0 b).2.1 := by decide +kernel
theorem tyJ0_ok : ∀ k, k < 0 → parseFieldDescriptor (TJ0 k).2.2.1 = some (tyJ0 k) := by decide +kernel
def RL : String := "RollerLeafLaw"
abbrev cL_pattern : ByteArray := method_3_code
def yL_pattern : MethodName := ⟨RL, "pattern", "(LRollerLeaf;III[J)I"⟩
abbrev cL_paint : ByteArray := method_4_code
def yL_paint : MethodName := ⟨RL, "paint", "(LRollerLeaf;IIII[J)I"⟩
abbrev cL_colour : ByteArray := method_5_code
def yL_colour : MethodName := ⟨RL, "colour", "(LRollerLeaf;III[J)I"⟩
abbrev cL_repeat : ByteArray := method_6_code
def yL_repeat : MethodName := ⟨RL, "repeat", "(LRollerLeaf;IZ[J)I"⟩
abbrev cL_repeatAnew : ByteArray := method_7_code
def yL_repeatAnew : MethodName := ⟨RL, "repeatAnew", "(LRollerLeaf;IZ[J)I"⟩
abbrev cL_roller : ByteArray := method_8_code
def yL_roller : MethodName := ⟨RL, "roller", "(LRollerLeaf;II[J)I"⟩
abbrev cL_lot : ByteArray := method_9_code
def yL_lot : MethodName := ⟨RL, "lot", "(LRollerLeaf;IIII[J)I"⟩
abbrev cL_lotOf : ByteArray := method_10_code
def yL_lotOf : MethodName := ⟨RL, "lotOf", "(LRollerLeaf;II[J)I"⟩
abbrev cL_wall : ByteArray := method_11_code
def yL_wall : MethodName := ⟨RL, "wall", "(LRollerLeaf;III[J)I"⟩
abbrev cL_hang : ByteArray := method_12_code
def yL_hang : MethodName := ⟨RL, "hang", "(LRollerLeaf;II[J)I"⟩
abbrev cL_lengthen : ByteArray := method_13_code
def yL_lengthen : MethodName := ⟨RL, "lengthen", "(LRollerLeaf;III[J)I"⟩
abbrev cL_strip : ByteArray := method_14_code
def yL_strip : MethodName := ⟨RL, "strip", "(LRollerLeaf;I[J)I"⟩
abbrev cL_room : ByteArray := method_15_code
def yL_room : MethodName := ⟨RL, "room", "(LRollerLeaf;II[J)I"⟩
abbrev cL_cut : ByteArray := method_16_code
def yL_cut : MethodName := ⟨RL, "cut", "(LRollerLeaf;III[J)I"⟩
abbrev cL_seen : ByteArray := method_17_code
def yL_seen : MethodName := ⟨RL, "seen", "(LRollerLeaf;IIII[J)I"⟩
abbrev cL_law : ByteArray := code
def yL_law : MethodName := ⟨RL, "law", "([I)Z"⟩
abbrev vwCl : List vw_C := [(RX0, TX0, 3), (RX1, TX1, 5), (RX2, TX2, 6), (RX3, TX3, 4), (RX4, TX4, 2), (RX5, TX5, 5), (RX6, TX6, 3), (RX7, TX7, 8), (RX8, TX8, 29)]
theorem dX0_init_0 : decode cX0_init 0 = .ok (.aload_n 0, 1) := by decide +kernel
theorem dX0_init_1 : decode cX0_init 1 = .ok (.invokespecial 3, 3) := by decide +kernel
theorem dX0_init_4 : decode cX0_init 4 = .ok (.aload_n 0, 1) := by decide +kernel
theorem dX0_init_5 : decode cX0_init 5 = .ok (.bipush 100, 2) := by decide +kernel
theorem dX0_init_7 : decode cX0_init 7 = .ok (.newarray .int, 2) := by decide +kernel
theorem dX0_init_9 : decode cX0_init 9 = .ok (.putfield 9, 3) := by decide +kernel
theorem dX0_init_12 : decode cX0_init 12 = .ok (.aload_n 0, 1) := by decide +kernel
theorem dX0_init_13 : decode cX0_init 13 = .ok (.iload_n 1, 1) := by decide +kernel
theorem dX0_init_14 : decode cX0_init 14 = .ok (.putfield 15, 3) := by decide +kernel
theorem dX0_init_17 : decode cX0_init 17 = .ok (.aload_n 0, 1) := by decide +kernel
theorem dX0_init_18 : decode cX0_init 18 = .ok (.iload_n 2, 1) := by decide +kernel
theorem dX0_init_19 : decode cX0_init 19 = .ok (.putfield 19, 3) := by decide +kernel
theorem dX0_init_22 : decode cX0_init 22 = .ok (.return_, 1) := by decide +kernel
theorem dX0_holds_0 : decode cX0_holds 0 = .ok (.iload_n 1, 1) := by decide +kernel
theorem dX0_holds_1 : decode cX0_holds 1 = .ok (.ifCond .lt 27, 3) := by decide +kernel
theorem dX0_holds_4 : decode cX0_holds 4 = .ok (.iload_n 1, 1) := by decide +kernel
theorem dX0_holds_5 : decode cX0_holds 5 = .ok (.aload_n 0, 1) := by decide +kernel
theorem dX0_holds_6 : decode cX0_holds 6 = .ok (.getfield 15, 3) := by decide +kernel
theorem dX0_holds_9 : decode cX0_holds 9 = .ok (.if_icmp .ge 19, 3) := by decide +kernel
theorem dX0_holds_12 : decode cX0_holds 12 = .ok (.iload_n 2, 1) := by decide +kernel
theorem dX0_holds_13 : decode cX0_holds 13 = .ok (.ifCond .lt 15, 3) := by decide +kernel
theorem dX0_holds_16 : decode cX0_holds 16 = .ok (.iload_n 2, 1) := by decide +kernel
theorem dX0_holds_17 : decode cX0_holds 17 = .ok (.aload_n 0, 1) := by decide +kernel
theorem dX0_holds_18 : decode cX0_holds 18 = .ok (.getfield 19, 3) := by decide +kernel
theorem dX0_holds_21 : decode cX0_holds 21 = .ok (.if_icmp .ge 7, 3) := by decide +kernel
theorem dX0_holds_24 : decode cX0_holds 24 = .ok (.iconst 1, 1) := by decide +kernel
theorem dX0_holds_25 : decode cX0_holds 25 = .ok (.goto 4, 3) := by decide +kernel
theorem dX0_holds_28 : decode cX0_holds 28 = .ok (.iconst 0, 1) := by decide +kernel
theorem dX0_holds_29 : decode cX0_holds 29 = .ok (.ireturn, 1) := by decide +kernel
theorem dX0_colourAt_0 : decode cX0_colourAt 0 = .ok (.aload_n 0, 1) := by decide +kernel
theorem dX0_colourAt_1 : decode cX0_colourAt 1 = .ok (.iload_n 1, 1) := by decide +kernel
theorem dX0_colourAt_2 : decode cX0_colourAt 2 = .ok (.iload_n 2, 1) := by decide +kernel
theorem dX0_colourAt_3 : decode cX0_colourAt 3 = .ok (.invokevirtual 22, 3) := by decide +kernel
theorem dX0_colourAt_6 : decode cX0_colourAt 6 = .ok (.istore_n 3, 1) := by decide +kernel
theorem dX0_colourAt_7 : decode cX0_colourAt 7 = .ok (.iload_n 3, 1) := by decide +kernel
theorem dX0_colourAt_8 : decode cX0_colourAt 8 = .ok (.ifCond .lt 12, 3) := by decide +kernel
theorem dX0_colourAt_11 : decode cX0_colourAt 11 = .ok (.iload_n 3, 1) := by decide +kernel
theorem dX0_colourAt_12 : decode cX0_colourAt 12 = .ok (.aload_n 0, 1) := by decide +kernel
theorem dX0_colourAt_13 : decode cX0_colourAt 13 = .ok (.getfield 9, 3) := by decide +kernel
theorem dX0_colourAt_16 : decode cX0_colourAt 16 = .ok (.arraylength, 1) := by decide +kernel
theorem dX0_colourAt_17 : decode cX0_colourAt 17 = .ok (.if_icmp .lt 7, 3) := by decide +kernel
theorem dX0_colourAt_20 : decode cX0_colourAt 20 = .ok (.iconst (-1), 1) := by decide +kernel
theorem dX0_colourAt_21 : decode cX0_colourAt 21 = .ok (.goto 9, 3) := by decide +kernel
theorem dX0_colourAt_24 : decode cX0_colourAt 24 = .ok (.aload_n 0, 1) := by decide +kernel
theorem dX0_colourAt_25 : decode cX0_colourAt 25 = .ok (.getfield 9, 3) := by decide +kernel
theorem dX0_colourAt_28 : decode cX0_colourAt 28 = .ok (.iload_n 3, 1) := by decide +kernel
theorem dX0_colourAt_29 : decode cX0_colourAt 29 = .ok (.iaload, 1) := by decide +kernel
theorem dX0_colourAt_30 : decode cX0_colourAt 30 = .ok (.ireturn, 1) := by decide +kernel
theorem dX0_put_0 : decode cX0_put 0 = .ok (.aload_n 0, 1) := by decide +kernel
theorem dX0_put_1 : decode cX0_put 1 = .ok (.iload_n 1, 1) := by decide +kernel
theorem dX0_put_2 : decode cX0_put 2 = .ok (.iload_n 2, 1) := by decide +kernel
theorem dX0_put_3 : decode cX0_put 3 = .ok (.invokevirtual 22, 3) := by decide +kernel
theorem dX0_put_6 : decode cX0_put 6 = .ok (.istore 4, 2) := by decide +kernel
theorem dX0_put_8 : decode cX0_put 8 = .ok (.iload 4, 2) := by decide +kernel
theorem dX0_put_10 : decode cX0_put 10 = .ok (.ifCond .lt 21, 3) := by decide +kernel
theorem dX0_put_13 : decode cX0_put 13 = .ok (.iload 4, 2) := by decide +kernel
theorem dX0_put_15 : decode cX0_put 15 = .ok (.aload_n 0, 1) := by decide +kernel
theorem dX0_put_16 : decode cX0_put 16 = .ok (.getfield 9, 3) := by decide +kernel
theorem dX0_put_19 : decode cX0_put 19 = .ok (.arraylength, 1) := by decide +kernel
theorem dX0_put_20 : decode cX0_put 20 = .ok (.if_icmp .ge 11, 3) := by decide +kernel
theorem dX0_put_23 : decode cX0_put 23 = .ok (.aload_n 0, 1) := by decide +kernel
theorem dX0_put_24 : decode cX0_put 24 = .ok (.getfield 9, 3) := by decide +kernel
theorem dX0_put_27 : decode cX0_put 27 = .ok (.iload 4, 2) := by decide +kernel
theorem dX0_put_29 : decode cX0_put 29 = .ok (.iload_n 3, 1) := by decide +kernel
theorem dX0_put_30 : decode cX0_put 30 = .ok (.iastore, 1) := by decide +kernel
theorem dX0_put_31 : decode cX0_put 31 = .ok (.return_, 1) := by decide +kernel
theorem dX0_place_0 : decode cX0_place 0 = .ok (.iload_n 2, 1) := by decide +kernel
theorem dX0_place_1 : decode cX0_place 1 = .ok (.aload_n 0, 1) := by decide +kernel
theorem dX0_place_2 : decode cX0_place 2 = .ok (.getfield 19, 3) := by decide +kernel
theorem dX0_place_5 : decode cX0_place 5 = .ok (.invokestatic 26, 3) := by decide +kernel
theorem dX0_place_8 : decode cX0_place 8 = .ok (.aload_n 0, 1) := by decide +kernel
theorem dX0_place_9 : decode cX0_place 9 = .ok (.getfield 15, 3) := by decide +kernel
theorem dX0_place_12 : decode cX0_place 12 = .ok (.imul, 1) := by decide +kernel
theorem dX0_place_13 : decode cX0_place 13 = .ok (.iload_n 1, 1) := by decide +kernel
theorem dX0_place_14 : decode cX0_place 14 = .ok (.aload_n 0, 1) := by decide +kernel
theorem dX0_place_15 : decode cX0_place 15 = .ok (.getfield 15, 3) := by decide +kernel
theorem dX0_place_18 : decode cX0_place 18 = .ok (.invokestatic 26, 3) := by decide +kernel
theorem dX0_place_21 : decode cX0_place 21 = .ok (.iadd, 1) := by decide +kernel
theorem dX0_place_22 : decode cX0_place 22 = .ok (.ireturn, 1) := by decide +kernel
theorem dX1_init_0 : decode cX1_init 0 = .ok (.aload_n 0, 1) := by decide +kernel
theorem dX1_init_1 : decode cX1_init 1 = .ok (.invokespecial 1, 3) := by decide +kernel
theorem dX1_init_4 : decode cX1_init 4 = .ok (.aload_n 0, 1) := by decide +kernel
theorem dX1_init_5 : decode cX1_init 5 = .ok (.aload_n 1, 1) := by decide +kernel
theorem dX1_init_6 : decode cX1_init 6 = .ok (.putfield 7, 3) := by decide +kernel
theorem dX1_init_9 : decode cX1_init 9 = .ok (.aload_n 0, 1) := by decide +kernel
theorem dX1_init_10 : decode cX1_init 10 = .ok (.iload_n 2, 1) := by decide +kernel
theorem dX1_init_11 : decode cX1_init 11 = .ok (.putfield 13, 3) := by decide +kernel
theorem dX1_init_14 : decode cX1_init 14 = .ok (.aload_n 0, 1) := by decide +kernel
theorem dX1_init_15 : decode cX1_init 15 = .ok (.iload_n 3, 1) := by decide +kernel
theorem dX1_init_16 : decode cX1_init 16 = .ok (.putfield 17, 3) := by decide +kernel
theorem dX1_init_19 : decode cX1_init 19 = .ok (.aload_n 0, 1) := by decide +kernel
theorem dX1_init_20 : decode cX1_init 20 = .ok (.iload 4, 2) := by decide +kernel
theorem dX1_init_22 : decode cX1_init 22 = .ok (.putfield 20, 3) := by decide +kernel
theorem dX1_init_25 : decode cX1_init 25 = .ok (.aload_n 0, 1) := by decide +kernel
theorem dX1_init_26 : decode cX1_init 26 = .ok (.iload 5, 2) := by decide +kernel
theorem dX1_init_28 : decode cX1_init 28 = .ok (.putfield 23, 3) := by decide +kernel
theorem dX1_init_31 : decode cX1_init 31 = .ok (.return_, 1) := by decide +kernel
theorem dX1_roundsOfARoll_0 : decode cX1_roundsOfARoll 0 = .ok (.aload_n 0, 1) := by decide +kernel
theorem dX1_roundsOfARoll_1 : decode cX1_roundsOfARoll 1 = .ok (.getfield 7, 3) := by decide +kernel
theorem dX1_roundsOfARoll_4 : decode cX1_roundsOfARoll 4 = .ok (.getfield 26, 3) := by decide +kernel
theorem dX1_roundsOfARoll_7 : decode cX1_roundsOfARoll 7 = .ok (.istore_n 1, 1) := by decide +kernel
theorem dX1_roundsOfARoll_8 : decode cX1_roundsOfARoll 8 = .ok (.iload_n 1, 1) := by decide +kernel
theorem dX1_roundsOfARoll_9 : decode cX1_roundsOfARoll 9 = .ok (.iconst 1, 1) := by decide +kernel
theorem dX1_roundsOfARoll_10 : decode cX1_roundsOfARoll 10 = .ok (.if_icmp .ge 7, 3) := by decide +kernel
theorem dX1_roundsOfARoll_13 : decode cX1_roundsOfARoll 13 = .ok (.iconst 0, 1) := by decide +kernel
theorem dX1_roundsOfARoll_14 : decode cX1_roundsOfARoll 14 = .ok (.goto 13, 3) := by decide +kernel
theorem dX1_roundsOfARoll_17 : decode cX1_roundsOfARoll 17 = .ok (.aload_n 0, 1) := by decide +kernel
theorem dX1_roundsOfARoll_18 : decode cX1_roundsOfARoll 18 = .ok (.getfield 23, 3) := by decide +kernel
theorem dX1_roundsOfARoll_21 : decode cX1_roundsOfARoll 21 = .ok (.iload_n 1, 1) := by decide +kernel
theorem dX1_roundsOfARoll_22 : decode cX1_roundsOfARoll 22 = .ok (.iadd, 1) := by decide +kernel
theorem dX1_roundsOfARoll_23 : decode cX1_roundsOfARoll 23 = .ok (.iconst 1, 1) := by decide +kernel
theorem dX1_roundsOfARoll_24 : decode cX1_roundsOfARoll 24 = .ok (.isub, 1) := by decide +kernel
theorem dX1_roundsOfARoll_25 : decode cX1_roundsOfARoll 25 = .ok (.iload_n 1, 1) := by decide +kernel
theorem dX1_roundsOfARoll_26 : decode cX1_roundsOfARoll 26 = .ok (.idiv, 1) := by decide +kernel
theorem dX1_roundsOfARoll_27 : decode cX1_roundsOfARoll 27 = .ok (.ireturn, 1) := by decide +kernel
theorem dX2_init_0 : decode cX2_init 0 = .ok (.aload_n 0, 1) := by decide +kernel
theorem dX2_init_1 : decode cX2_init 1 = .ok (.invokespecial 3, 3) := by decide +kernel
theorem dX2_init_4 : decode cX2_init 4 = .ok (.aload_n 0, 1) := by decide +kernel
theorem dX2_init_5 : decode cX2_init 5 = .ok (.bipush 20, 2) := by decide +kernel
theorem dX2_init_7 : decode cX2_init 7 = .ok (.newarray .int, 2) := by decide +kernel
theorem dX2_init_9 : decode cX2_init 9 = .ok (.putfield 9, 3) := by decide +kernel
theorem dX2_init_12 : decode cX2_init 12 = .ok (.return_, 1) := by decide +kernel
theorem dX2_beginAnew_0 : decode cX2_beginAnew 0 = .ok (.aload_n 0, 1) := by decide +kernel
theorem dX2_beginAnew_1 : decode cX2_beginAnew 1 = .ok (.iconst 0, 1) := by decide +kernel
theorem dX2_beginAnew_2 : decode cX2_beginAnew 2 = .ok (.putfield 15, 3) := by decide +kernel
theorem dX2_beginAnew_5 : decode cX2_beginAnew 5 = .ok (.aload_n 0, 1) := by decide +kernel
theorem dX2_beginAnew_6 : decode cX2_beginAnew 6 = .ok (.aload_n 1, 1) := by decide +kernel
theorem dX2_beginAnew_7 : decode cX2_beginAnew 7 = .ok (.getfield 19, 3) := by decide +kernel
theorem dX2_beginAnew_10 : decode cX2_beginAnew 10 = .ok (.putfield 24, 3) := by decide +kernel
theorem dX2_beginAnew_13 : decode cX2_beginAnew 13 = .ok (.aload_n 0, 1) := by decide +kernel
theorem dX2_beginAnew_14 : decode cX2_beginAnew 14 = .ok (.aload_n 1, 1) := by decide +kernel
theorem dX2_beginAnew_15 : decode cX2_beginAnew 15 = .ok (.getfield 27, 3) := by decide +kernel
theorem dX2_beginAnew_18 : decode cX2_beginAnew 18 = .ok (.putfield 30, 3) := by decide +kernel
theorem dX2_beginAnew_21 : decode cX2_beginAnew 21 = .ok (.aload_n 0, 1) := by decide +kernel
theorem dX2_beginAnew_22 : decode cX2_beginAnew 22 = .ok (.aload_n 1, 1) := by decide +kernel
theorem dX2_beginAnew_23 : decode cX2_beginAnew 23 = .ok (.getfield 31, 3) := by decide +kernel
theorem dX2_beginAnew_26 : decode cX2_beginAnew 26 = .ok (.getfield 35, 3) := by decide +kernel
theorem dX2_beginAnew_29 : decode cX2_beginAnew 29 = .ok (.getfield 41, 3) := by decide +kernel
theorem dX2_beginAnew_32 : decode cX2_beginAnew 32 = .ok (.putfield 46, 3) := by decide +kernel
theorem dX2_beginAnew_35 : decode cX2_beginAnew 35 = .ok (.aload_n 0, 1) := by decide +kernel
theorem dX2_beginAnew_36 : decode cX2_beginAnew 36 = .ok (.iload_n 2, 1) := by decide +kernel
theorem dX2_beginAnew_37 : decode cX2_beginAnew 37 = .ok (.putfield 49, 3) := by decide +kernel
theorem dX2_beginAnew_40 : decode cX2_beginAnew 40 = .ok (.return_, 1) := by decide +kernel
theorem dX2_takeDrop_0 : decode cX2_takeDrop 0 = .ok (.iconst 0, 1) := by decide +kernel
theorem dX2_takeDrop_1 : decode cX2_takeDrop 1 = .ok (.istore_n 2, 1) := by decide +kernel
theorem dX2_takeDrop_2 : decode cX2_takeDrop 2 = .ok (.iload_n 2, 1) := by decide +kernel
theorem dX2_takeDrop_3 : decode cX2_takeDrop 3 = .ok (.aload_n 0, 1) := by decide +kernel
theorem dX2_takeDrop_4 : decode cX2_takeDrop 4 = .ok (.getfield 15, 3) := by decide +kernel
theorem dX2_takeDrop_7 : decode cX2_takeDrop 7 = .ok (.if_icmp .ge 71, 3) := by decide +kernel
theorem dX2_takeDrop_10 : decode cX2_takeDrop 10 = .ok (.iload_n 2, 1) := by decide +kernel
theorem dX2_takeDrop_11 : decode cX2_takeDrop 11 = .ok (.aload_n 0, 1) := by decide +kernel
theorem dX2_takeDrop_12 : decode cX2_takeDrop 12 = .ok (.getfield 9, 3) := by decide +kernel
theorem dX2_takeDrop_15 : decode cX2_takeDrop 15 = .ok (.arraylength, 1) := by decide +kernel
theorem dX2_takeDrop_16 : decode cX2_takeDrop 16 = .ok (.if_icmp .ge 62, 3) := by decide +kernel
theorem dX2_takeDrop_19 : decode cX2_takeDrop 19 = .ok (.aload_n 0, 1) := by decide +kernel
theorem dX2_takeDrop_20 : decode cX2_takeDrop 20 = .ok (.getfield 9, 3) := by decide +kernel
theorem dX2_takeDrop_23 : decode cX2_takeDrop 23 = .ok (.iload_n 2, 1) := by decide +kernel
theorem dX2_takeDrop_24 : decode cX2_takeDrop 24 = .ok (.iaload, 1) := by decide +kernel
theorem dX2_takeDrop_25 : decode cX2_takeDrop 25 = .ok (.aload_n 0, 1) := by decide +kernel
theorem dX2_takeDrop_26 : decode cX2_takeDrop 26 = .ok (.getfield 49, 3) := by decide +kernel
theorem dX2_takeDrop_29 : decode cX2_takeDrop 29 = .ok (.aload_n 0, 1) := by decide +kernel
theorem dX2_takeDrop_30 : decode cX2_takeDrop 30 = .ok (.getfield 9, 3) := by decide +kernel
theorem dX2_takeDrop_33 : decode cX2_takeDrop 33 = .ok (.iload_n 2, 1) := by decide +kernel
theorem dX2_takeDrop_34 : decode cX2_takeDrop 34 = .ok (.iaload, 1) := by decide +kernel
theorem dX2_takeDrop_35 : decode cX2_takeDrop 35 = .ok (.isub, 1) := by decide +kernel
theorem dX2_takeDrop_36 : decode cX2_takeDrop 36 = .ok (.aload_n 0, 1) := by decide +kernel
theorem dX2_takeDrop_37 : decode cX2_takeDrop 37 = .ok (.getfield 46, 3) := by decide +kernel
theorem dX2_takeDrop_40 : decode cX2_takeDrop 40 = .ok (.invokestatic 52, 3) := by decide +kernel
theorem dX2_takeDrop_43 : decode cX2_takeDrop 43 = .ok (.iadd, 1) := by decide +kernel
theorem dX2_takeDrop_44 : decode cX2_takeDrop 44 = .ok (.istore_n 3, 1) := by decide +kernel
theorem dX2_takeDrop_45 : decode cX2_takeDrop 45 = .ok (.iload_n 3, 1) := by decide +kernel
theorem dX2_takeDrop_46 : decode cX2_takeDrop 46 = .ok (.iload_n 1, 1) := by decide +kernel
theorem dX2_takeDrop_47 : decode cX2_takeDrop 47 = .ok (.iadd, 1) := by decide +kernel
theorem dX2_takeDrop_48 : decode cX2_takeDrop 48 = .ok (.aload_n 0, 1) := by decide +kernel
theorem dX2_takeDrop_49 : decode cX2_takeDrop 49 = .ok (.getfield 30, 3) := by decide +kernel
theorem dX2_takeDrop_52 : decode cX2_takeDrop 52 = .ok (.if_icmp .gt 20, 3) := by decide +kernel
theorem dX2_takeDrop_55 : decode cX2_takeDrop 55 = .ok (.aload_n 0, 1) := by decide +kernel
theorem dX2_takeDrop_56 : decode cX2_takeDrop 56 = .ok (.getfield 9, 3) := by decide +kernel
theorem dX2_takeDrop_59 : decode cX2_takeDrop 59 = .ok (.iload_n 2, 1) := by decide +kernel
theorem dX2_takeDrop_60 : decode cX2_takeDrop 60 = .ok (.iload_n 3, 1) := by decide +kernel
theorem dX2_takeDrop_61 : decode cX2_takeDrop 61 = .ok (.iload_n 1, 1) := by decide +kernel
theorem dX2_takeDrop_62 : decode cX2_takeDrop 62 = .ok (.iadd, 1) := by decide +kernel
theorem dX2_takeDrop_63 : decode cX2_takeDrop 63 = .ok (.iastore, 1) := by decide +kernel
theorem dX2_takeDrop_64 : decode cX2_takeDrop 64 = .ok (.sipush 1000, 3) := by decide +kernel
theorem dX2_takeDrop_67 : decode cX2_takeDrop 67 = .ok (.iload_n 2, 1) := by decide +kernel
theorem dX2_takeDrop_68 : decode cX2_takeDrop 68 = .ok (.imul, 1) := by decide +kernel
theorem dX2_takeDrop_69 : decode cX2_takeDrop 69 = .ok (.iload_n 3, 1) := by decide +kernel
theorem dX2_takeDrop_70 : decode cX2_takeDrop 70 = .ok (.iadd, 1) := by decide +kernel
theorem dX2_takeDrop_71 : decode cX2_takeDrop 71 = .ok (.ireturn, 1) := by decide +kernel
theorem dX2_takeDrop_72 : decode cX2_takeDrop 72 = .ok (.iinc 2 1, 3) := by decide +kernel
theorem dX2_takeDrop_75 : decode cX2_takeDrop 75 = .ok (.goto (-73), 3) := by decide +kernel
theorem dX2_takeDrop_78 : decode cX2_takeDrop 78 = .ok (.aload_n 0, 1) := by decide +kernel
theorem dX2_takeDrop_79 : decode cX2_takeDrop 79 = .ok (.iload_n 1, 1) := by decide +kernel
theorem dX2_takeDrop_80 : decode cX2_takeDrop 80 = .ok (.invokevirtual 56, 3) := by decide +kernel
theorem dX2_takeDrop_83 : decode cX2_takeDrop 83 = .ok (.ireturn, 1) := by decide +kernel
theorem dX2_takeFromNewRoll_0 : decode cX2_takeFromNewRoll 0 = .ok (.aload_n 0, 1) := by decide +kernel
theorem dX2_takeFromNewRoll_1 : decode cX2_takeFromNewRoll 1 = .ok (.getfield 15, 3) := by decide +kernel
theorem dX2_takeFromNewRoll_4 : decode cX2_takeFromNewRoll 4 = .ok (.istore_n 2, 1) := by decide +kernel
theorem dX2_takeFromNewRoll_5 : decode cX2_takeFromNewRoll 5 = .ok (.iload_n 2, 1) := by decide +kernel
theorem dX2_takeFromNewRoll_6 : decode cX2_takeFromNewRoll 6 = .ok (.ifCond .lt 24, 3) := by decide +kernel
theorem dX2_takeFromNewRoll_9 : decode cX2_takeFromNewRoll 9 = .ok (.iload_n 2, 1) := by decide +kernel
theorem dX2_takeFromNewRoll_10 : decode cX2_takeFromNewRoll 10 = .ok (.aload_n 0, 1) := by decide +kernel
theorem dX2_takeFromNewRoll_11 : decode cX2_takeFromNewRoll 11 = .ok (.getfield 24, 3) := by decide +kernel
theorem dX2_takeFromNewRoll_14 : decode cX2_takeFromNewRoll 14 = .ok (.if_icmp .ge 16, 3) := by decide +kernel
theorem dX2_takeFromNewRoll_17 : decode cX2_takeFromNewRoll 17 = .ok (.iload_n 2, 1) := by decide +kernel
theorem dX2_takeFromNewRoll_18 : decode cX2_takeFromNewRoll 18 = .ok (.aload_n 0, 1) := by decide +kernel
theorem dX2_takeFromNewRoll_19 : decode cX2_takeFromNewRoll 19 = .ok (.getfield 9, 3) := by decide +kernel
theorem dX2_takeFromNewRoll_22 : decode cX2_takeFromNewRoll 22 = .ok (.arraylength, 1) := by decide +kernel
theorem dX2_takeFromNewRoll_23 : decode cX2_takeFromNewRoll 23 = .ok (.if_icmp .ge 7, 3) := by decide +kernel
theorem dX2_takeFromNewRoll_26 : decode cX2_takeFromNewRoll 26 = .ok (.iconst 1, 1) := by decide +kernel
theorem dX2_takeFromNewRoll_27 : decode cX2_takeFromNewRoll 27 = .ok (.goto 4, 3) := by decide +kernel
theorem dX2_takeFromNewRoll_30 : decode cX2_takeFromNewRoll 30 = .ok (.iconst 0, 1) := by decide +kernel
theorem dX2_takeFromNewRoll_31 : decode cX2_takeFromNewRoll 31 = .ok (.istore_n 3, 1) := by decide +kernel
theorem dX2_takeFromNewRoll_32 : decode cX2_takeFromNewRoll 32 = .ok (.iload_n 3, 1) := by decide +kernel
theorem dX2_takeFromNewRoll_33 : decode cX2_takeFromNewRoll 33 = .ok (.ifCond .eq 16, 3) := by decide +kernel
theorem dX2_takeFromNewRoll_36 : decode cX2_takeFromNewRoll 36 = .ok (.aload_n 0, 1) := by decide +kernel
theorem dX2_takeFromNewRoll_37 : decode cX2_takeFromNewRoll 37 = .ok (.getfield 49, 3) := by decide +kernel
theorem dX2_takeFromNewRoll_40 : decode cX2_takeFromNewRoll 40 = .ok (.iload_n 1, 1) := by decide +kernel
theorem dX2_takeFromNewRoll_41 : decode cX2_takeFromNewRoll 41 = .ok (.iadd, 1) := by decide +kernel
theorem dX2_takeFromNewRoll_42 : decode cX2_takeFromNewRoll 42 = .ok (.aload_n 0, 1) := by decide +kernel
theorem dX2_takeFromNewRoll_43 : decode cX2_takeFromNewRoll 43 = .ok (.getfield 30, 3) := by decide +kernel
theorem dX2_takeFromNewRoll_46 : decode cX2_takeFromNewRoll 46 = .ok (.if_icmp .le 5, 3) := by decide +kernel
theorem dX2_takeFromNewRoll_49 : decode cX2_takeFromNewRoll 49 = .ok (.iconst (-1), 1) := by decide +kernel
theorem dX2_takeFromNewRoll_50 : decode cX2_takeFromNewRoll 50 = .ok (.ireturn, 1) := by decide +kernel
theorem dX2_takeFromNewRoll_51 : decode cX2_takeFromNewRoll 51 = .ok (.aload_n 0, 1) := by decide +kernel
theorem dX2_takeFromNewRoll_52 : decode cX2_takeFromNewRoll 52 = .ok (.getfield 9, 3) := by decide +kernel
theorem dX2_takeFromNewRoll_55 : decode cX2_takeFromNewRoll 55 = .ok (.iload_n 2, 1) := by decide +kernel
theorem dX2_takeFromNewRoll_56 : decode cX2_takeFromNewRoll 56 = .ok (.aload_n 0, 1) := by decide +kernel
theorem dX2_takeFromNewRoll_57 : decode cX2_takeFromNewRoll 57 = .ok (.getfield 49, 3) := by decide +kernel
theorem dX2_takeFromNewRoll_60 : decode cX2_takeFromNewRoll 60 = .ok (.iload_n 1, 1) := by decide +kernel
theorem dX2_takeFromNewRoll_61 : decode cX2_takeFromNewRoll 61 = .ok (.iadd, 1) := by decide +kernel
theorem dX2_takeFromNewRoll_62 : decode cX2_takeFromNewRoll 62 = .ok (.iastore, 1) := by decide +kernel
theorem dX2_takeFromNewRoll_63 : decode cX2_takeFromNewRoll 63 = .ok (.aload_n 0, 1) := by decide +kernel
theorem dX2_takeFromNewRoll_64 : decode cX2_takeFromNewRoll 64 = .ok (.iload_n 2, 1) := by decide +kernel
theorem dX2_takeFromNewRoll_65 : decode cX2_takeFromNewRoll 65 = .ok (.iconst 1, 1) := by decide +kernel
theorem dX2_takeFromNewRoll_66 : decode cX2_takeFromNewRoll 66 = .ok (.iadd, 1) := by decide +kernel
theorem dX2_takeFromNewRoll_67 : decode cX2_takeFromNewRoll 67 = .ok (.putfield 15, 3) := by decide +kernel
theorem dX2_takeFromNewRoll_70 : decode cX2_takeFromNewRoll 70 = .ok (.sipush 1000, 3) := by decide +kernel
theorem dX2_takeFromNewRoll_73 : decode cX2_takeFromNewRoll 73 = .ok (.iload_n 2, 1) := by decide +kernel
theorem dX2_takeFromNewRoll_74 : decode cX2_takeFromNewRoll 74 = .ok (.imul, 1) := by decide +kernel
theorem dX2_takeFromNewRoll_75 : decode cX2_takeFromNewRoll 75 = .ok (.aload_n 0, 1) := by decide +kernel
theorem dX2_takeFromNewRoll_76 : decode cX2_takeFromNewRoll 76 = .ok (.getfield 49, 3) := by decide +kernel
theorem dX2_takeFromNewRoll_79 : decode cX2_takeFromNewRoll 79 = .ok (.iadd, 1) := by decide +kernel
theorem dX2_takeFromNewRoll_80 : decode cX2_takeFromNewRoll 80 = .ok (.ireturn, 1) := by decide +kernel
theorem dX3_init_0 : decode cX3_init 0 = .ok (.aload_n 0, 1) := by decide +kernel
theorem dX3_init_1 : decode cX3_init 1 = .ok (.invokespecial 3, 3) := by decide +kernel
theorem dX3_init_4 : decode cX3_init 4 = .ok (.aload_n 0, 1) := by decide +kernel
theorem dX3_init_5 : decode cX3_init 5 = .ok (.new 9, 3) := by decide +kernel
theorem dX3_init_8 : decode cX3_init 8 = .ok (.dup, 1) := by decide +kernel
theorem dX3_init_9 : decode cX3_init 9 = .ok (.iload_n 1, 1) := by decide +kernel
theorem dX3_init_10 : decode cX3_init 10 = .ok (.iload_n 2, 1) := by decide +kernel
theorem dX3_init_11 : decode cX3_init 11 = .ok (.invokespecial 11, 3) := by decide +kernel
theorem dX3_init_14 : decode cX3_init 14 = .ok (.putfield 14, 3) := by decide +kernel
theorem dX3_init_17 : decode cX3_init 17 = .ok (.aload_n 0, 1) := by decide +kernel
theorem dX3_init_18 : decode cX3_init 18 = .ok (.iload_n 3, 1) := by decide +kernel
theorem dX3_init_19 : decode cX3_init 19 = .ok (.putfield 20, 3) := by decide +kernel
theorem dX3_init_22 : decode cX3_init 22 = .ok (.iload_n 3, 1) := by decide +kernel
theorem dX3_init_23 : decode cX3_init 23 = .ok (.ifCond .eq 8, 3) := by decide +kernel
theorem dX3_init_26 : decode cX3_init 26 = .ok (.iload_n 3, 1) := by decide +kernel
theorem dX3_init_27 : decode cX3_init 27 = .ok (.iconst 1, 1) := by decide +kernel
theorem dX3_init_28 : decode cX3_init 28 = .ok (.if_icmp .ne 7, 3) := by decide +kernel
theorem dX3_init_31 : decode cX3_init 31 = .ok (.iconst 1, 1) := by decide +kernel
theorem dX3_init_32 : decode cX3_init 32 = .ok (.goto 4, 3) := by decide +kernel
theorem dX3_init_35 : decode cX3_init 35 = .ok (.iconst 0, 1) := by decide +kernel
theorem dX3_init_36 : decode cX3_init 36 = .ok (.istore 4, 2) := by decide +kernel
theorem dX3_init_38 : decode cX3_init 38 = .ok (.iload_n 3, 1) := by decide +kernel
theorem dX3_init_39 : decode cX3_init 39 = .ok (.ifCond .eq 13, 3) := by decide +kernel
theorem dX3_init_42 : decode cX3_init 42 = .ok (.iload_n 3, 1) := by decide +kernel
theorem dX3_init_43 : decode cX3_init 43 = .ok (.iconst 2, 1) := by decide +kernel
theorem dX3_init_44 : decode cX3_init 44 = .ok (.if_icmp .eq 8, 3) := by decide +kernel
theorem dX3_init_47 : decode cX3_init 47 = .ok (.iload_n 3, 1) := by decide +kernel
theorem dX3_init_48 : decode cX3_init 48 = .ok (.iconst 3, 1) := by decide +kernel
theorem dX3_init_49 : decode cX3_init 49 = .ok (.if_icmp .ne 7, 3) := by decide +kernel
theorem dX3_init_52 : decode cX3_init 52 = .ok (.iconst 1, 1) := by decide +kernel
theorem dX3_init_53 : decode cX3_init 53 = .ok (.goto 4, 3) := by decide +kernel
theorem dX3_init_56 : decode cX3_init 56 = .ok (.iconst 0, 1) := by decide +kernel
theorem dX3_init_57 : decode cX3_init 57 = .ok (.istore 5, 2) := by decide +kernel
theorem dX3_init_59 : decode cX3_init 59 = .ok (.aload_n 0, 1) := by decide +kernel
theorem dX3_init_60 : decode cX3_init 60 = .ok (.iload 4, 2) := by decide +kernel
theorem dX3_init_62 : decode cX3_init 62 = .ok (.ifCond .eq 7, 3) := by decide +kernel
theorem dX3_init_65 : decode cX3_init 65 = .ok (.iload_n 1, 1) := by decide +kernel
theorem dX3_init_66 : decode cX3_init 66 = .ok (.goto 6, 3) := by decide +kernel
theorem dX3_init_69 : decode cX3_init 69 = .ok (.iconst 2, 1) := by decide +kernel
theorem dX3_init_70 : decode cX3_init 70 = .ok (.iload_n 1, 1) := by decide +kernel
theorem dX3_init_71 : decode cX3_init 71 = .ok (.imul, 1) := by decide +kernel
theorem dX3_init_72 : decode cX3_init 72 = .ok (.putfield 24, 3) := by decide +kernel
theorem dX3_init_75 : decode cX3_init 75 = .ok (.aload_n 0, 1) := by decide +kernel
theorem dX3_init_76 : decode cX3_init 76 = .ok (.iload 5, 2) := by decide +kernel
theorem dX3_init_78 : decode cX3_init 78 = .ok (.ifCond .eq 7, 3) := by decide +kernel
theorem dX3_init_81 : decode cX3_init 81 = .ok (.iload_n 2, 1) := by decide +kernel
theorem dX3_init_82 : decode cX3_init 82 = .ok (.goto 6, 3) := by decide +kernel
theorem dX3_init_85 : decode cX3_init 85 = .ok (.iconst 2, 1) := by decide +kernel
theorem dX3_init_86 : decode cX3_init 86 = .ok (.iload_n 2, 1) := by decide +kernel
theorem dX3_init_87 : decode cX3_init 87 = .ok (.imul, 1) := by decide +kernel
theorem dX3_init_88 : decode cX3_init 88 = .ok (.putfield 27, 3) := by decide +kernel
theorem dX3_init_91 : decode cX3_init 91 = .ok (.return_, 1) := by decide +kernel
theorem dX3_colourAt_0 : decode cX3_colourAt 0 = .ok (.iload_n 1, 1) := by decide +kernel
theorem dX3_colourAt_1 : decode cX3_colourAt 1 = .ok (.aload_n 0, 1) := by decide +kernel
theorem dX3_colourAt_2 : decode cX3_colourAt 2 = .ok (.getfield 24, 3) := by decide +kernel
theorem dX3_colourAt_5 : decode cX3_colourAt 5 = .ok (.invokestatic 30, 3) := by decide +kernel
theorem dX3_colourAt_8 : decode cX3_colourAt 8 = .ok (.aload_n 0, 1) := by decide +kernel
theorem dX3_colourAt_9 : decode cX3_colourAt 9 = .ok (.getfield 14, 3) := by decide +kernel
theorem dX3_colourAt_12 : decode cX3_colourAt 12 = .ok (.getfield 34, 3) := by decide +kernel
theorem dX3_colourAt_15 : decode cX3_colourAt 15 = .ok (.if_icmp .lt 7, 3) := by decide +kernel
theorem dX3_colourAt_18 : decode cX3_colourAt 18 = .ok (.iconst 1, 1) := by decide +kernel
theorem dX3_colourAt_19 : decode cX3_colourAt 19 = .ok (.goto 4, 3) := by decide +kernel
theorem dX3_colourAt_22 : decode cX3_colourAt 22 = .ok (.iconst 0, 1) := by decide +kernel
theorem dX3_colourAt_23 : decode cX3_colourAt 23 = .ok (.istore_n 3, 1) := by decide +kernel
theorem dX3_colourAt_24 : decode cX3_colourAt 24 = .ok (.iload_n 2, 1) := by decide +kernel
theorem dX3_colourAt_25 : decode cX3_colourAt 25 = .ok (.aload_n 0, 1) := by decide +kernel
theorem dX3_colourAt_26 : decode cX3_colourAt 26 = .ok (.getfield 27, 3) := by decide +kernel
theorem dX3_colourAt_29 : decode cX3_colourAt 29 = .ok (.invokestatic 30, 3) := by decide +kernel
theorem dX3_colourAt_32 : decode cX3_colourAt 32 = .ok (.aload_n 0, 1) := by decide +kernel
theorem dX3_colourAt_33 : decode cX3_colourAt 33 = .ok (.getfield 14, 3) := by decide +kernel
theorem dX3_colourAt_36 : decode cX3_colourAt 36 = .ok (.getfield 37, 3) := by decide +kernel
theorem dX3_colourAt_39 : decode cX3_colourAt 39 = .ok (.if_icmp .lt 7, 3) := by decide +kernel
theorem dX3_colourAt_42 : decode cX3_colourAt 42 = .ok (.iconst 1, 1) := by decide +kernel
theorem dX3_colourAt_43 : decode cX3_colourAt 43 = .ok (.goto 4, 3) := by decide +kernel
theorem dX3_colourAt_46 : decode cX3_colourAt 46 = .ok (.iconst 0, 1) := by decide +kernel
theorem dX3_colourAt_47 : decode cX3_colourAt 47 = .ok (.istore 4, 2) := by decide +kernel
theorem dX3_colourAt_49 : decode cX3_colourAt 49 = .ok (.iload_n 1, 1) := by decide +kernel
theorem dX3_colourAt_50 : decode cX3_colourAt 50 = .ok (.aload_n 0, 1) := by decide +kernel
theorem dX3_colourAt_51 : decode cX3_colourAt 51 = .ok (.getfield 14, 3) := by decide +kernel
theorem dX3_colourAt_54 : decode cX3_colourAt 54 = .ok (.getfield 34, 3) := by decide +kernel
theorem dX3_colourAt_57 : decode cX3_colourAt 57 = .ok (.invokestatic 30, 3) := by decide +kernel
theorem dX3_colourAt_60 : decode cX3_colourAt 60 = .ok (.istore 5, 2) := by decide +kernel
theorem dX3_colourAt_62 : decode cX3_colourAt 62 = .ok (.iload_n 2, 1) := by decide +kernel
theorem dX3_colourAt_63 : decode cX3_colourAt 63 = .ok (.aload_n 0, 1) := by decide +kernel
theorem dX3_colourAt_64 : decode cX3_colourAt 64 = .ok (.getfield 14, 3) := by decide +kernel
theorem dX3_colourAt_67 : decode cX3_colourAt 67 = .ok (.getfield 37, 3) := by decide +kernel
theorem dX3_colourAt_70 : decode cX3_colourAt 70 = .ok (.invokestatic 30, 3) := by decide +kernel
theorem dX3_colourAt_73 : decode cX3_colourAt 73 = .ok (.istore 6, 2) := by decide +kernel
theorem dX3_colourAt_75 : decode cX3_colourAt 75 = .ok (.aload_n 0, 1) := by decide +kernel
theorem dX3_colourAt_76 : decode cX3_colourAt 76 = .ok (.getfield 20, 3) := by decide +kernel
theorem dX3_colourAt_79 : decode cX3_colourAt 79 = .ok (.iconst 5, 1) := by decide +kernel
theorem dX3_colourAt_80 : decode cX3_colourAt 80 = .ok (.if_icmp .ne 21, 3) := by decide +kernel
theorem dX3_colourAt_83 : decode cX3_colourAt 83 = .ok (.iload_n 3, 1) := by decide +kernel
theorem dX3_colourAt_84 : decode cX3_colourAt 84 = .ok (.iload 4, 2) := by decide +kernel
theorem dX3_colourAt_86 : decode cX3_colourAt 86 = .ok (.if_icmp .eq 15, 3) := by decide +kernel
theorem dX3_colourAt_89 : decode cX3_colourAt 89 = .ok (.iload 5, 2) := by decide +kernel
theorem dX3_colourAt_91 : decode cX3_colourAt 91 = .ok (.istore 7, 2) := by decide +kernel
theorem dX3_colourAt_93 : decode cX3_colourAt 93 = .ok (.iload 6, 2) := by decide +kernel
theorem dX3_colourAt_95 : decode cX3_colourAt 95 = .ok (.istore 5, 2) := by decide +kernel
theorem dX3_colourAt_97 : decode cX3_colourAt 97 = .ok (.iload 7, 2) := by decide +kernel
theorem dX3_colourAt_99 : decode cX3_colourAt 99 = .ok (.istore 6, 2) := by decide +kernel
theorem dX3_colourAt_101 : decode cX3_colourAt 101 = .ok (.aload_n 0, 1) := by decide +kernel
theorem dX3_colourAt_102 : decode cX3_colourAt 102 = .ok (.iload_n 3, 1) := by decide +kernel
theorem dX3_colourAt_103 : decode cX3_colourAt 103 = .ok (.iload 4, 2) := by decide +kernel
theorem dX3_colourAt_105 : decode cX3_colourAt 105 = .ok (.invokevirtual 40, 3) := by decide +kernel
theorem dX3_colourAt_108 : decode cX3_colourAt 108 = .ok (.ifCond .eq 17, 3) := by decide +kernel
theorem dX3_colourAt_111 : decode cX3_colourAt 111 = .ok (.aload_n 0, 1) := by decide +kernel
theorem dX3_colourAt_112 : decode cX3_colourAt 112 = .ok (.getfield 14, 3) := by decide +kernel
theorem dX3_colourAt_115 : decode cX3_colourAt 115 = .ok (.getfield 34, 3) := by decide +kernel
theorem dX3_colourAt_118 : decode cX3_colourAt 118 = .ok (.iconst 1, 1) := by decide +kernel
theorem dX3_colourAt_119 : decode cX3_colourAt 119 = .ok (.isub, 1) := by decide +kernel
theorem dX3_colourAt_120 : decode cX3_colourAt 120 = .ok (.iload 5, 2) := by decide +kernel
theorem dX3_colourAt_122 : decode cX3_colourAt 122 = .ok (.isub, 1) := by decide +kernel
theorem dX3_colourAt_123 : decode cX3_colourAt 123 = .ok (.istore 5, 2) := by decide +kernel
theorem dX3_colourAt_125 : decode cX3_colourAt 125 = .ok (.aload_n 0, 1) := by decide +kernel
theorem dX3_colourAt_126 : decode cX3_colourAt 126 = .ok (.iload_n 3, 1) := by decide +kernel
theorem dX3_colourAt_127 : decode cX3_colourAt 127 = .ok (.iload 4, 2) := by decide +kernel
theorem dX3_colourAt_129 : decode cX3_colourAt 129 = .ok (.invokevirtual 44, 3) := by decide +kernel
theorem dX3_colourAt_132 : decode cX3_colourAt 132 = .ok (.ifCond .eq 17, 3) := by decide +kernel
theorem dX3_colourAt_135 : decode cX3_colourAt 135 = .ok (.aload_n 0, 1) := by decide +kernel
theorem dX3_colourAt_136 : decode cX3_colourAt 136 = .ok (.getfield 14, 3) := by decide +kernel
theorem dX3_colourAt_139 : decode cX3_colourAt 139 = .ok (.getfield 37, 3) := by decide +kernel
theorem dX3_colourAt_142 : decode cX3_colourAt 142 = .ok (.iconst 1, 1) := by decide +kernel
theorem dX3_colourAt_143 : decode cX3_colourAt 143 = .ok (.isub, 1) := by decide +kernel
theorem dX3_colourAt_144 : decode cX3_colourAt 144 = .ok (.iload 6, 2) := by decide +kernel
theorem dX3_colourAt_146 : decode cX3_colourAt 146 = .ok (.isub, 1) := by decide +kernel
theorem dX3_colourAt_147 : decode cX3_colourAt 147 = .ok (.istore 6, 2) := by decide +kernel
theorem dX3_colourAt_149 : decode cX3_colourAt 149 = .ok (.aload_n 0, 1) := by decide +kernel
theorem dX3_colourAt_150 : decode cX3_colourAt 150 = .ok (.getfield 14, 3) := by decide +kernel
theorem dX3_colourAt_153 : decode cX3_colourAt 153 = .ok (.iload 5, 2) := by decide +kernel
theorem dX3_colourAt_155 : decode cX3_colourAt 155 = .ok (.iload 6, 2) := by decide +kernel
theorem dX3_colourAt_157 : decode cX3_colourAt 157 = .ok (.invokevirtual 47, 3) := by decide +kernel
theorem dX3_colourAt_160 : decode cX3_colourAt 160 = .ok (.ireturn, 1) := by decide +kernel
theorem dX3_flipsColumns_0 : decode cX3_flipsColumns 0 = .ok (.aload_n 0, 1) := by decide +kernel
theorem dX3_flipsColumns_1 : decode cX3_flipsColumns 1 = .ok (.getfield 20, 3) := by decide +kernel
theorem dX3_flipsColumns_4 : decode cX3_flipsColumns 4 = .ok (.tableswitch 40 1 5 #[36, 38, 40, 38, 36], 36) := by decide +kernel
theorem dX3_flipsColumns_40 : decode cX3_flipsColumns 40 = .ok (.iload_n 2, 1) := by decide +kernel
theorem dX3_flipsColumns_41 : decode cX3_flipsColumns 41 = .ok (.ireturn, 1) := by decide +kernel
theorem dX3_flipsColumns_42 : decode cX3_flipsColumns 42 = .ok (.iload_n 1, 1) := by decide +kernel
theorem dX3_flipsColumns_43 : decode cX3_flipsColumns 43 = .ok (.ireturn, 1) := by decide +kernel
theorem dX3_flipsColumns_44 : decode cX3_flipsColumns 44 = .ok (.iconst 0, 1) := by decide +kernel
theorem dX3_flipsColumns_45 : decode cX3_flipsColumns 45 = .ok (.ireturn, 1) := by decide +kernel
theorem dX3_flipsRows_0 : decode cX3_flipsRows 0 = .ok (.aload_n 0, 1) := by decide +kernel
theorem dX3_flipsRows_1 : decode cX3_flipsRows 1 = .ok (.getfield 20, 3) := by decide +kernel
theorem dX3_flipsRows_4 : decode cX3_flipsRows 4 = .ok (.tableswitch 40 1 5 #[36, 40, 38, 36, 38], 36) := by decide +kernel
theorem dX3_flipsRows_40 : decode cX3_flipsRows 40 = .ok (.iload_n 2, 1) := by decide +kernel
theorem dX3_flipsRows_41 : decode cX3_flipsRows 41 = .ok (.ireturn, 1) := by decide +kernel
theorem dX3_flipsRows_42 : decode cX3_flipsRows 42 = .ok (.iload_n 1, 1) := by decide +kernel
theorem dX3_flipsRows_43 : decode cX3_flipsRows 43 = .ok (.ireturn, 1) := by decide +kernel
theorem dX3_flipsRows_44 : decode cX3_flipsRows 44 = .ok (.iconst 0, 1) := by decide +kernel
theorem dX3_flipsRows_45 : decode cX3_flipsRows 45 = .ok (.ireturn, 1) := by decide +kernel
theorem dX3_leastMove_0 : decode cX3_leastMove 0 = .ok (.iload_n 1, 1) := by decide +kernel
theorem dX3_leastMove_1 : decode cX3_leastMove 1 = .ok (.ifCond .eq 10, 3) := by decide +kernel
theorem dX3_leastMove_4 : decode cX3_leastMove 4 = .ok (.aload_n 0, 1) := by decide +kernel
theorem dX3_leastMove_5 : decode cX3_leastMove 5 = .ok (.getfield 27, 3) := by decide +kernel
theorem dX3_leastMove_8 : decode cX3_leastMove 8 = .ok (.goto 7, 3) := by decide +kernel
theorem dX3_leastMove_11 : decode cX3_leastMove 11 = .ok (.aload_n 0, 1) := by decide +kernel
theorem dX3_leastMove_12 : decode cX3_leastMove 12 = .ok (.getfield 24, 3) := by decide +kernel
theorem dX3_leastMove_15 : decode cX3_leastMove 15 = .ok (.istore_n 2, 1) := by decide +kernel
theorem dX3_leastMove_16 : decode cX3_leastMove 16 = .ok (.iconst 1, 1) := by decide +kernel
theorem dX3_leastMove_17 : decode cX3_leastMove 17 = .ok (.istore_n 3, 1) := by decide +kernel
theorem dX3_leastMove_18 : decode cX3_leastMove 18 = .ok (.iload_n 3, 1) := by decide +kernel
theorem dX3_leastMove_19 : decode cX3_leastMove 19 = .ok (.iload_n 2, 1) := by decide +kernel
theorem dX3_leastMove_20 : decode cX3_leastMove 20 = .ok (.if_icmp .ge 36, 3) := by decide +kernel
theorem dX3_leastMove_23 : decode cX3_leastMove 23 = .ok (.iload_n 1, 1) := by decide +kernel
theorem dX3_leastMove_24 : decode cX3_leastMove 24 = .ok (.ifCond .eq 15, 3) := by decide +kernel
theorem dX3_leastMove_27 : decode cX3_leastMove 27 = .ok (.aload_n 0, 1) := by decide +kernel
theorem dX3_leastMove_28 : decode cX3_leastMove 28 = .ok (.iconst 0, 1) := by decide +kernel
theorem dX3_leastMove_29 : decode cX3_leastMove 29 = .ok (.iload_n 3, 1) := by decide +kernel
theorem dX3_leastMove_30 : decode cX3_leastMove 30 = .ok (.invokevirtual 50, 3) := by decide +kernel
theorem dX3_leastMove_33 : decode cX3_leastMove 33 = .ok (.ifCond .eq 17, 3) := by decide +kernel
theorem dX3_leastMove_36 : decode cX3_leastMove 36 = .ok (.goto 12, 3) := by decide +kernel
theorem dX3_leastMove_39 : decode cX3_leastMove 39 = .ok (.aload_n 0, 1) := by decide +kernel
theorem dX3_leastMove_40 : decode cX3_leastMove 40 = .ok (.iload_n 3, 1) := by decide +kernel
theorem dX3_leastMove_41 : decode cX3_leastMove 41 = .ok (.iconst 0, 1) := by decide +kernel
theorem dX3_leastMove_42 : decode cX3_leastMove 42 = .ok (.invokevirtual 50, 3) := by decide +kernel
theorem dX3_leastMove_45 : decode cX3_leastMove 45 = .ok (.ifCond .eq 5, 3) := by decide +kernel
theorem dX3_leastMove_48 : decode cX3_leastMove 48 = .ok (.iload_n 3, 1) := by decide +kernel
theorem dX3_leastMove_49 : decode cX3_leastMove 49 = .ok (.ireturn, 1) := by decide +kernel
theorem dX3_leastMove_50 : decode cX3_leastMove 50 = .ok (.iinc 3 1, 3) := by decide +kernel
theorem dX3_leastMove_53 : decode cX3_leastMove 53 = .ok (.goto (-35), 3) := by decide +kernel
theorem dX3_leastMove_56 : decode cX3_leastMove 56 = .ok (.iload_n 2, 1) := by decide +kernel
theorem dX3_leastMove_57 : decode cX3_leastMove 57 = .ok (.ireturn, 1) := by decide +kernel
theorem dX3_staysWhenMoved_0 : decode cX3_staysWhenMoved 0 = .ok (.iconst 0, 1) := by decide +kernel
theorem dX3_staysWhenMoved_1 : decode cX3_staysWhenMoved 1 = .ok (.istore_n 3, 1) := by decide +kernel
theorem dX3_staysWhenMoved_2 : decode cX3_staysWhenMoved 2 = .ok (.iload_n 3, 1) := by decide +kernel
theorem dX3_staysWhenMoved_3 : decode cX3_staysWhenMoved 3 = .ok (.aload_n 0, 1) := by decide +kernel
theorem dX3_staysWhenMoved_4 : decode cX3_staysWhenMoved 4 = .ok (.getfield 27, 3) := by decide +kernel
theorem dX3_staysWhenMoved_7 : decode cX3_staysWhenMoved 7 = .ok (.if_icmp .ge 50, 3) := by decide +kernel
theorem dX3_staysWhenMoved_10 : decode cX3_staysWhenMoved 10 = .ok (.iconst 0, 1) := by decide +kernel
theorem dX3_staysWhenMoved_11 : decode cX3_staysWhenMoved 11 = .ok (.istore 4, 2) := by decide +kernel
theorem dX3_staysWhenMoved_13 : decode cX3_staysWhenMoved 13 = .ok (.iload 4, 2) := by decide +kernel
theorem dX3_staysWhenMoved_15 : decode cX3_staysWhenMoved 15 = .ok (.aload_n 0, 1) := by decide +kernel
theorem dX3_staysWhenMoved_16 : decode cX3_staysWhenMoved 16 = .ok (.getfield 24, 3) := by decide +kernel
theorem dX3_staysWhenMoved_19 : decode cX3_staysWhenMoved 19 = .ok (.if_icmp .ge 32, 3) := by decide +kernel
theorem dX3_staysWhenMoved_22 : decode cX3_staysWhenMoved 22 = .ok (.aload_n 0, 1) := by decide +kernel
theorem dX3_staysWhenMoved_23 : decode cX3_staysWhenMoved 23 = .ok (.iload 4, 2) := by decide +kernel
theorem dX3_staysWhenMoved_25 : decode cX3_staysWhenMoved 25 = .ok (.iload_n 3, 1) := by decide +kernel
theorem dX3_staysWhenMoved_26 : decode cX3_staysWhenMoved 26 = .ok (.invokevirtual 54, 3) := by decide +kernel
theorem dX3_staysWhenMoved_29 : decode cX3_staysWhenMoved 29 = .ok (.aload_n 0, 1) := by decide +kernel
theorem dX3_staysWhenMoved_30 : decode cX3_staysWhenMoved 30 = .ok (.iload 4, 2) := by decide +kernel
theorem dX3_staysWhenMoved_32 : decode cX3_staysWhenMoved 32 = .ok (.iload_n 1, 1) := by decide +kernel
theorem dX3_staysWhenMoved_33 : decode cX3_staysWhenMoved 33 = .ok (.iadd, 1) := by decide +kernel
theorem dX3_staysWhenMoved_34 : decode cX3_staysWhenMoved 34 = .ok (.iload_n 3, 1) := by decide +kernel
theorem dX3_staysWhenMoved_35 : decode cX3_staysWhenMoved 35 = .ok (.iload_n 2, 1) := by decide +kernel
theorem dX3_staysWhenMoved_36 : decode cX3_staysWhenMoved 36 = .ok (.iadd, 1) := by decide +kernel
theorem dX3_staysWhenMoved_37 : decode cX3_staysWhenMoved 37 = .ok (.invokevirtual 54, 3) := by decide +kernel
theorem dX3_staysWhenMoved_40 : decode cX3_staysWhenMoved 40 = .ok (.if_icmp .eq 5, 3) := by decide +kernel
theorem dX3_staysWhenMoved_43 : decode cX3_staysWhenMoved 43 = .ok (.iconst 0, 1) := by decide +kernel
theorem dX3_staysWhenMoved_44 : decode cX3_staysWhenMoved 44 = .ok (.ireturn, 1) := by decide +kernel
theorem dX3_staysWhenMoved_45 : decode cX3_staysWhenMoved 45 = .ok (.iinc 4 1, 3) := by decide +kernel
theorem dX3_staysWhenMoved_48 : decode cX3_staysWhenMoved 48 = .ok (.goto (-35), 3) := by decide +kernel
theorem dX3_staysWhenMoved_51 : decode cX3_staysWhenMoved 51 = .ok (.iinc 3 1, 3) := by decide +kernel
theorem dX3_staysWhenMoved_54 : decode cX3_staysWhenMoved 54 = .ok (.goto (-52), 3) := by decide +kernel
theorem dX3_staysWhenMoved_57 : decode cX3_staysWhenMoved 57 = .ok (.iconst 1, 1) := by decide +kernel
theorem dX3_staysWhenMoved_58 : decode cX3_staysWhenMoved 58 = .ok (.ireturn, 1) := by decide +kernel
theorem dX3_drawn_0 : decode cX3_drawn 0 = .ok (.new 9, 3) := by decide +kernel
theorem dX3_drawn_3 : decode cX3_drawn 3 = .ok (.dup, 1) := by decide +kernel
theorem dX3_drawn_4 : decode cX3_drawn 4 = .ok (.aload_n 0, 1) := by decide +kernel
theorem dX3_drawn_5 : decode cX3_drawn 5 = .ok (.getfield 24, 3) := by decide +kernel
theorem dX3_drawn_8 : decode cX3_drawn 8 = .ok (.aload_n 0, 1) := by decide +kernel
theorem dX3_drawn_9 : decode cX3_drawn 9 = .ok (.getfield 27, 3) := by decide +kernel
theorem dX3_drawn_12 : decode cX3_drawn 12 = .ok (.invokespecial 11, 3) := by decide +kernel
theorem dX3_drawn_15 : decode cX3_drawn 15 = .ok (.astore_n 1, 1) := by decide +kernel
theorem dX3_drawn_16 : decode cX3_drawn 16 = .ok (.iconst 0, 1) := by decide +kernel
theorem dX3_drawn_17 : decode cX3_drawn 17 = .ok (.istore_n 2, 1) := by decide +kernel
theorem dX3_drawn_18 : decode cX3_drawn 18 = .ok (.iload_n 2, 1) := by decide +kernel
theorem dX3_drawn_19 : decode cX3_drawn 19 = .ok (.aload_n 0, 1) := by decide +kernel
theorem dX3_drawn_20 : decode cX3_drawn 20 = .ok (.getfield 27, 3) := by decide +kernel
theorem dX3_drawn_23 : decode cX3_drawn 23 = .ok (.if_icmp .ge 37, 3) := by decide +kernel
theorem dX3_drawn_26 : decode cX3_drawn 26 = .ok (.iconst 0, 1) := by decide +kernel
theorem dX3_drawn_27 : decode cX3_drawn 27 = .ok (.istore_n 3, 1) := by decide +kernel
theorem dX3_drawn_28 : decode cX3_drawn 28 = .ok (.iload_n 3, 1) := by decide +kernel
theorem dX3_drawn_29 : decode cX3_drawn 29 = .ok (.aload_n 0, 1) := by decide +kernel
theorem dX3_drawn_30 : decode cX3_drawn 30 = .ok (.getfield 24, 3) := by decide +kernel
theorem dX3_drawn_33 : decode cX3_drawn 33 = .ok (.if_icmp .ge 21, 3) := by decide +kernel
theorem dX3_drawn_36 : decode cX3_drawn 36 = .ok (.aload_n 1, 1) := by decide +kernel
theorem dX3_drawn_37 : decode cX3_drawn 37 = .ok (.iload_n 3, 1) := by decide +kernel
theorem dX3_drawn_38 : decode cX3_drawn 38 = .ok (.iload_n 2, 1) := by decide +kernel
theorem dX3_drawn_39 : decode cX3_drawn 39 = .ok (.aload_n 0, 1) := by decide +kernel
theorem dX3_drawn_40 : decode cX3_drawn 40 = .ok (.iload_n 3, 1) := by decide +kernel
theorem dX3_drawn_41 : decode cX3_drawn 41 = .ok (.iload_n 2, 1) := by decide +kernel
theorem dX3_drawn_42 : decode cX3_drawn 42 = .ok (.invokevirtual 54, 3) := by decide +kernel
theorem dX3_drawn_45 : decode cX3_drawn 45 = .ok (.invokevirtual 55, 3) := by decide +kernel
theorem dX3_drawn_48 : decode cX3_drawn 48 = .ok (.iinc 3 1, 3) := by decide +kernel
theorem dX3_drawn_51 : decode cX3_drawn 51 = .ok (.goto (-23), 3) := by decide +kernel
theorem dX3_drawn_54 : decode cX3_drawn 54 = .ok (.iinc 2 1, 3) := by decide +kernel
theorem dX3_drawn_57 : decode cX3_drawn 57 = .ok (.goto (-39), 3) := by decide +kernel
theorem dX3_drawn_60 : decode cX3_drawn 60 = .ok (.aload_n 1, 1) := by decide +kernel
theorem dX3_drawn_61 : decode cX3_drawn 61 = .ok (.areturn, 1) := by decide +kernel
theorem dX4_init_0 : decode cX4_init 0 = .ok (.aload_n 0, 1) := by decide +kernel
theorem dX4_init_1 : decode cX4_init 1 = .ok (.invokespecial 1, 3) := by decide +kernel
theorem dX4_init_4 : decode cX4_init 4 = .ok (.aload_n 0, 1) := by decide +kernel
theorem dX4_init_5 : decode cX4_init 5 = .ok (.iload_n 1, 1) := by decide +kernel
theorem dX4_init_6 : decode cX4_init 6 = .ok (.putfield 7, 3) := by decide +kernel
theorem dX4_init_9 : decode cX4_init 9 = .ok (.aload_n 0, 1) := by decide +kernel
theorem dX4_init_10 : decode cX4_init 10 = .ok (.aload_n 2, 1) := by decide +kernel
theorem dX4_init_11 : decode cX4_init 11 = .ok (.putfield 13, 3) := by decide +kernel
theorem dX4_init_14 : decode cX4_init 14 = .ok (.return_, 1) := by decide +kernel
theorem dX5_init_0 : decode cX5_init 0 = .ok (.aload_n 0, 1) := by decide +kernel
theorem dX5_init_1 : decode cX5_init 1 = .ok (.invokespecial 3, 3) := by decide +kernel
theorem dX5_init_4 : decode cX5_init 4 = .ok (.aload_n 0, 1) := by decide +kernel
theorem dX5_init_5 : decode cX5_init 5 = .ok (.iconst 4, 1) := by decide +kernel
theorem dX5_init_6 : decode cX5_init 6 = .ok (.anewarray 9, 3) := by decide +kernel
theorem dX5_init_9 : decode cX5_init 9 = .ok (.putfield 11, 3) := by decide +kernel
theorem dX5_init_12 : decode cX5_init 12 = .ok (.aload_n 0, 1) := by decide +kernel
theorem dX5_init_13 : decode cX5_init 13 = .ok (.new 17, 3) := by decide +kernel
theorem dX5_init_16 : decode cX5_init 16 = .ok (.dup, 1) := by decide +kernel
theorem dX5_init_17 : decode cX5_init 17 = .ok (.invokespecial 19, 3) := by decide +kernel
theorem dX5_init_20 : decode cX5_init 20 = .ok (.putfield 20, 3) := by decide +kernel
theorem dX5_init_23 : decode cX5_init 23 = .ok (.return_, 1) := by decide +kernel
theorem dX5_isHung_0 : decode cX5_isHung 0 = .ok (.aload_n 0, 1) := by decide +kernel
theorem dX5_isHung_1 : decode cX5_isHung 1 = .ok (.getfield 24, 3) := by decide +kernel
theorem dX5_isHung_4 : decode cX5_isHung 4 = .ok (.ifnull 7, 3) := by decide +kernel
theorem dX5_isHung_7 : decode cX5_isHung 7 = .ok (.iconst 1, 1) := by decide +kernel
theorem dX5_isHung_8 : decode cX5_isHung 8 = .ok (.goto 4, 3) := by decide +kernel
theorem dX5_isHung_11 : decode cX5_isHung 11 = .ok (.iconst 0, 1) := by decide +kernel
theorem dX5_isHung_12 : decode cX5_isHung 12 = .ok (.ireturn, 1) := by decide +kernel
theorem dX5_makeBare_0 : decode cX5_makeBare 0 = .ok (.aload_n 0, 1) := by decide +kernel
theorem dX5_makeBare_1 : decode cX5_makeBare 1 = .ok (.aconst_null, 1) := by decide +kernel
theorem dX5_makeBare_2 : decode cX5_makeBare 2 = .ok (.putfield 24, 3) := by decide +kernel
theorem dX5_makeBare_5 : decode cX5_makeBare 5 = .ok (.return_, 1) := by decide +kernel
theorem dX5_addWall_0 : decode cX5_addWall 0 = .ok (.aload_n 0, 1) := by decide +kernel
theorem dX5_addWall_1 : decode cX5_addWall 1 = .ok (.getfield 28, 3) := by decide +kernel
theorem dX5_addWall_4 : decode cX5_addWall 4 = .ok (.istore_n 3, 1) := by decide +kernel
theorem dX5_addWall_5 : decode cX5_addWall 5 = .ok (.iload_n 3, 1) := by decide +kernel
theorem dX5_addWall_6 : decode cX5_addWall 6 = .ok (.ifCond .lt 12, 3) := by decide +kernel
theorem dX5_addWall_9 : decode cX5_addWall 9 = .ok (.iload_n 3, 1) := by decide +kernel
theorem dX5_addWall_10 : decode cX5_addWall 10 = .ok (.aload_n 0, 1) := by decide +kernel
theorem dX5_addWall_11 : decode cX5_addWall 11 = .ok (.getfield 11, 3) := by decide +kernel
theorem dX5_addWall_14 : decode cX5_addWall 14 = .ok (.arraylength, 1) := by decide +kernel
theorem dX5_addWall_15 : decode cX5_addWall 15 = .ok (.if_icmp .lt 5, 3) := by decide +kernel
theorem dX5_addWall_18 : decode cX5_addWall 18 = .ok (.iconst (-1), 1) := by decide +kernel
theorem dX5_addWall_19 : decode cX5_addWall 19 = .ok (.ireturn, 1) := by decide +kernel
theorem dX5_addWall_20 : decode cX5_addWall 20 = .ok (.aload_n 0, 1) := by decide +kernel
theorem dX5_addWall_21 : decode cX5_addWall 21 = .ok (.getfield 11, 3) := by decide +kernel
theorem dX5_addWall_24 : decode cX5_addWall 24 = .ok (.iload_n 3, 1) := by decide +kernel
theorem dX5_addWall_25 : decode cX5_addWall 25 = .ok (.new 9, 3) := by decide +kernel
theorem dX5_addWall_28 : decode cX5_addWall 28 = .ok (.dup, 1) := by decide +kernel
theorem dX5_addWall_29 : decode cX5_addWall 29 = .ok (.iload_n 1, 1) := by decide +kernel
theorem dX5_addWall_30 : decode cX5_addWall 30 = .ok (.iload_n 2, 1) := by decide +kernel
theorem dX5_addWall_31 : decode cX5_addWall 31 = .ok (.invokespecial 32, 3) := by decide +kernel
theorem dX5_addWall_34 : decode cX5_addWall 34 = .ok (.aastore, 1) := by decide +kernel
theorem dX5_addWall_35 : decode cX5_addWall 35 = .ok (.aload_n 0, 1) := by decide +kernel
theorem dX5_addWall_36 : decode cX5_addWall 36 = .ok (.iload_n 3, 1) := by decide +kernel
theorem dX5_addWall_37 : decode cX5_addWall 37 = .ok (.iconst 1, 1) := by decide +kernel
theorem dX5_addWall_38 : decode cX5_addWall 38 = .ok (.iadd, 1) := by decide +kernel
theorem dX5_addWall_39 : decode cX5_addWall 39 = .ok (.putfield 28, 3) := by decide +kernel
theorem dX5_addWall_42 : decode cX5_addWall 42 = .ok (.iload_n 3, 1) := by decide +kernel
theorem dX5_addWall_43 : decode cX5_addWall 43 = .ok (.ireturn, 1) := by decide +kernel
theorem dX5_bestPhase_0 : decode cX5_bestPhase 0 = .ok (.iconst (-1), 1) := by decide +kernel
theorem dX5_bestPhase_1 : decode cX5_bestPhase 1 = .ok (.istore_n 2, 1) := by decide +kernel
theorem dX5_bestPhase_2 : decode cX5_bestPhase 2 = .ok (.bipush 21, 2) := by decide +kernel
theorem dX5_bestPhase_4 : decode cX5_bestPhase 4 = .ok (.istore_n 3, 1) := by decide +kernel
theorem dX5_bestPhase_5 : decode cX5_bestPhase 5 = .ok (.iconst 0, 1) := by decide +kernel
theorem dX5_bestPhase_6 : decode cX5_bestPhase 6 = .ok (.istore 4, 2) := by decide +kernel
theorem dX5_bestPhase_8 : decode cX5_bestPhase 8 = .ok (.iload 4, 2) := by decide +kernel
theorem dX5_bestPhase_10 : decode cX5_bestPhase 10 = .ok (.aload_n 1, 1) := by decide +kernel
theorem dX5_bestPhase_11 : decode cX5_bestPhase 11 = .ok (.getfield 35, 3) := by decide +kernel
theorem dX5_bestPhase_14 : decode cX5_bestPhase 14 = .ok (.getfield 41, 3) := by decide +kernel
theorem dX5_bestPhase_17 : decode cX5_bestPhase 17 = .ok (.getfield 47, 3) := by decide +kernel
theorem dX5_bestPhase_20 : decode cX5_bestPhase 20 = .ok (.if_icmp .ge 41, 3) := by decide +kernel
theorem dX5_bestPhase_23 : decode cX5_bestPhase 23 = .ok (.aload_n 0, 1) := by decide +kernel
theorem dX5_bestPhase_24 : decode cX5_bestPhase 24 = .ok (.aload_n 1, 1) := by decide +kernel
theorem dX5_bestPhase_25 : decode cX5_bestPhase 25 = .ok (.iload 4, 2) := by decide +kernel
theorem dX5_bestPhase_27 : decode cX5_bestPhase 27 = .ok (.invokevirtual 52, 3) := by decide +kernel
theorem dX5_bestPhase_30 : decode cX5_bestPhase 30 = .ok (.ifCond .eq 25, 3) := by decide +kernel
theorem dX5_bestPhase_33 : decode cX5_bestPhase 33 = .ok (.aload_n 0, 1) := by decide +kernel
theorem dX5_bestPhase_34 : decode cX5_bestPhase 34 = .ok (.getfield 20, 3) := by decide +kernel
theorem dX5_bestPhase_37 : decode cX5_bestPhase 37 = .ok (.getfield 56, 3) := by decide +kernel
theorem dX5_bestPhase_40 : decode cX5_bestPhase 40 = .ok (.iload_n 3, 1) := by decide +kernel
theorem dX5_bestPhase_41 : decode cX5_bestPhase 41 = .ok (.if_icmp .ge 14, 3) := by decide +kernel
theorem dX5_bestPhase_44 : decode cX5_bestPhase 44 = .ok (.iload 4, 2) := by decide +kernel
theorem dX5_bestPhase_46 : decode cX5_bestPhase 46 = .ok (.istore_n 2, 1) := by decide +kernel
theorem dX5_bestPhase_47 : decode cX5_bestPhase 47 = .ok (.aload_n 0, 1) := by decide +kernel
theorem dX5_bestPhase_48 : decode cX5_bestPhase 48 = .ok (.getfield 20, 3) := by decide +kernel
theorem dX5_bestPhase_51 : decode cX5_bestPhase 51 = .ok (.getfield 56, 3) := by decide +kernel
theorem dX5_bestPhase_54 : decode cX5_bestPhase 54 = .ok (.istore_n 3, 1) := by decide +kernel
theorem dX5_bestPhase_55 : decode cX5_bestPhase 55 = .ok (.iinc 4 1, 3) := by decide +kernel
theorem dX5_bestPhase_58 : decode cX5_bestPhase 58 = .ok (.goto (-50), 3) := by decide +kernel
theorem dX5_bestPhase_61 : decode cX5_bestPhase 61 = .ok (.iload_n 2, 1) := by decide +kernel
theorem dX5_bestPhase_62 : decode cX5_bestPhase 62 = .ok (.ireturn, 1) := by decide +kernel
theorem dX5_cutAll_0 : decode cX5_cutAll 0 = .ok (.aload_n 0, 1) := by decide +kernel
theorem dX5_cutAll_1 : decode cX5_cutAll 1 = .ok (.getfield 20, 3) := by decide +kernel
theorem dX5_cutAll_4 : decode cX5_cutAll 4 = .ok (.aload_n 1, 1) := by decide +kernel
theorem dX5_cutAll_5 : decode cX5_cutAll 5 = .ok (.iload_n 2, 1) := by decide +kernel
theorem dX5_cutAll_6 : decode cX5_cutAll 6 = .ok (.invokevirtual 59, 3) := by decide +kernel
theorem dX5_cutAll_9 : decode cX5_cutAll 9 = .ok (.aload_n 0, 1) := by decide +kernel
theorem dX5_cutAll_10 : decode cX5_cutAll 10 = .ok (.getfield 11, 3) := by decide +kernel
theorem dX5_cutAll_13 : decode cX5_cutAll 13 = .ok (.astore_n 3, 1) := by decide +kernel
theorem dX5_cutAll_14 : decode cX5_cutAll 14 = .ok (.aload_n 3, 1) := by decide +kernel
theorem dX5_cutAll_15 : decode cX5_cutAll 15 = .ok (.arraylength, 1) := by decide +kernel
theorem dX5_cutAll_16 : decode cX5_cutAll 16 = .ok (.istore 4, 2) := by decide +kernel
theorem dX5_cutAll_18 : decode cX5_cutAll 18 = .ok (.iconst 0, 1) := by decide +kernel
theorem dX5_cutAll_19 : decode cX5_cutAll 19 = .ok (.istore 5, 2) := by decide +kernel
theorem dX5_cutAll_21 : decode cX5_cutAll 21 = .ok (.iload 5, 2) := by decide +kernel
theorem dX5_cutAll_23 : decode cX5_cutAll 23 = .ok (.iload 4, 2) := by decide +kernel
theorem dX5_cutAll_25 : decode cX5_cutAll 25 = .ok (.if_icmp .ge 35, 3) := by decide +kernel
theorem dX5_cutAll_28 : decode cX5_cutAll 28 = .ok (.aload_n 3, 1) := by decide +kernel
theorem dX5_cutAll_29 : decode cX5_cutAll 29 = .ok (.iload 5, 2) := by decide +kernel
theorem dX5_cutAll_31 : decode cX5_cutAll 31 = .ok (.aaload, 1) := by decide +kernel
theorem dX5_cutAll_32 : decode cX5_cutAll 32 = .ok (.astore 6, 2) := by decide +kernel
theorem dX5_cutAll_34 : decode cX5_cutAll 34 = .ok (.aload 6, 2) := by decide +kernel
theorem dX5_cutAll_36 : decode cX5_cutAll 36 = .ok (.ifnull 18, 3) := by decide +kernel
theorem dX5_cutAll_39 : decode cX5_cutAll 39 = .ok (.aload 6, 2) := by decide +kernel
theorem dX5_cutAll_41 : decode cX5_cutAll 41 = .ok (.aload_n 0, 1) := by decide +kernel
theorem dX5_cutAll_42 : decode cX5_cutAll 42 = .ok (.getfield 20, 3) := by decide +kernel
theorem dX5_cutAll_45 : decode cX5_cutAll 45 = .ok (.iconst 0, 1) := by decide +kernel
theorem dX5_cutAll_46 : decode cX5_cutAll 46 = .ok (.invokevirtual 63, 3) := by decide +kernel
theorem dX5_cutAll_49 : decode cX5_cutAll 49 = .ok (.ifCond .ne 5, 3) := by decide +kernel
theorem dX5_cutAll_52 : decode cX5_cutAll 52 = .ok (.iconst 0, 1) := by decide +kernel
theorem dX5_cutAll_53 : decode cX5_cutAll 53 = .ok (.ireturn, 1) := by decide +kernel
theorem dX5_cutAll_54 : decode cX5_cutAll 54 = .ok (.iinc 5 1, 3) := by decide +kernel
theorem dX5_cutAll_57 : decode cX5_cutAll 57 = .ok (.goto (-36), 3) := by decide +kernel
theorem dX5_cutAll_60 : decode cX5_cutAll 60 = .ok (.iconst 1, 1) := by decide +kernel
theorem dX5_cutAll_61 : decode cX5_cutAll 61 = .ok (.ireturn, 1) := by decide +kernel
theorem dX5_hangFrom_0 : decode cX5_hangFrom 0 = .ok (.aload_n 0, 1) := by decide +kernel
theorem dX5_hangFrom_1 : decode cX5_hangFrom 1 = .ok (.aload_n 1, 1) := by decide +kernel
theorem dX5_hangFrom_2 : decode cX5_hangFrom 2 = .ok (.iload_n 3, 1) := by decide +kernel
theorem dX5_hangFrom_3 : decode cX5_hangFrom 3 = .ok (.invokevirtual 52, 3) := by decide +kernel
theorem dX5_hangFrom_6 : decode cX5_hangFrom 6 = .ok (.pop, 1) := by decide +kernel
theorem dX5_hangFrom_7 : decode cX5_hangFrom 7 = .ok (.aload_n 1, 1) := by decide +kernel
theorem dX5_hangFrom_8 : decode cX5_hangFrom 8 = .ok (.dup, 1) := by decide +kernel
theorem dX5_hangFrom_9 : decode cX5_hangFrom 9 = .ok (.getfield 67, 3) := by decide +kernel
theorem dX5_hangFrom_12 : decode cX5_hangFrom 12 = .ok (.aload_n 0, 1) := by decide +kernel
theorem dX5_hangFrom_13 : decode cX5_hangFrom 13 = .ok (.getfield 20, 3) := by decide +kernel
theorem dX5_hangFrom_16 : decode cX5_hangFrom 16 = .ok (.getfield 56, 3) := by decide +kernel
theorem dX5_hangFrom_19 : decode cX5_hangFrom 19 = .ok (.isub, 1) := by decide +kernel
theorem dX5_hangFrom_20 : decode cX5_hangFrom 20 = .ok (.putfield 67, 3) := by decide +kernel
theorem dX5_hangFrom_23 : decode cX5_hangFrom 23 = .ok (.aload_n 0, 1) := by decide +kernel
theorem dX5_hangFrom_24 : decode cX5_hangFrom 24 = .ok (.aload_n 1, 1) := by decide +kernel
theorem dX5_hangFrom_25 : decode cX5_hangFrom 25 = .ok (.putfield 24, 3) := by decide +kernel
theorem dX5_hangFrom_28 : decode cX5_hangFrom 28 = .ok (.aload_n 0, 1) := by decide +kernel
theorem dX5_hangFrom_29 : decode cX5_hangFrom 29 = .ok (.iload_n 2, 1) := by decide +kernel
theorem dX5_hangFrom_30 : decode cX5_hangFrom 30 = .ok (.putfield 70, 3) := by decide +kernel
theorem dX5_hangFrom_33 : decode cX5_hangFrom 33 = .ok (.aload_n 0, 1) := by decide +kernel
theorem dX5_hangFrom_34 : decode cX5_hangFrom 34 = .ok (.getfield 20, 3) := by decide +kernel
theorem dX5_hangFrom_37 : decode cX5_hangFrom 37 = .ok (.getfield 56, 3) := by decide +kernel
theorem dX5_hangFrom_40 : decode cX5_hangFrom 40 = .ok (.ireturn, 1) := by decide +kernel
theorem dX5_lengthenFrom_0 : decode cX5_lengthenFrom 0 = .ok (.aload_n 2, 1) := by decide +kernel
theorem dX5_lengthenFrom_1 : decode cX5_lengthenFrom 1 = .ok (.getfield 73, 3) := by decide +kernel
theorem dX5_lengthenFrom_4 : decode cX5_lengthenFrom 4 = .ok (.istore 4, 2) := by decide +kernel
theorem dX5_lengthenFrom_6 : decode cX5_lengthenFrom 6 = .ok (.aload_n 0, 1) := by decide +kernel
theorem dX5_lengthenFrom_7 : decode cX5_lengthenFrom 7 = .ok (.getfield 20, 3) := by decide +kernel
theorem dX5_lengthenFrom_10 : decode cX5_lengthenFrom 10 = .ok (.getfield 56, 3) := by decide +kernel
theorem dX5_lengthenFrom_13 : decode cX5_lengthenFrom 13 = .ok (.istore 5, 2) := by decide +kernel
theorem dX5_lengthenFrom_15 : decode cX5_lengthenFrom 15 = .ok (.aload_n 0, 1) := by decide +kernel
theorem dX5_lengthenFrom_16 : decode cX5_lengthenFrom 16 = .ok (.getfield 20, 3) := by decide +kernel
theorem dX5_lengthenFrom_19 : decode cX5_lengthenFrom 19 = .ok (.iload 5, 2) := by decide +kernel
theorem dX5_lengthenFrom_21 : decode cX5_lengthenFrom 21 = .ok (.aload_n 1, 1) := by decide +kernel
theorem dX5_lengthenFrom_22 : decode cX5_lengthenFrom 22 = .ok (.getfield 67, 3) := by decide +kernel
theorem dX5_lengthenFrom_25 : decode cX5_lengthenFrom 25 = .ok (.iadd, 1) := by decide +kernel
theorem dX5_lengthenFrom_26 : decode cX5_lengthenFrom 26 = .ok (.putfield 76, 3) := by decide +kernel
theorem dX5_lengthenFrom_29 : decode cX5_lengthenFrom 29 = .ok (.aload_n 2, 1) := by decide +kernel
theorem dX5_lengthenFrom_30 : decode cX5_lengthenFrom 30 = .ok (.iload 4, 2) := by decide +kernel
theorem dX5_lengthenFrom_32 : decode cX5_lengthenFrom 32 = .ok (.iload_n 3, 1) := by decide +kernel
theorem dX5_lengthenFrom_33 : decode cX5_lengthenFrom 33 = .ok (.iadd, 1) := by decide +kernel
theorem dX5_lengthenFrom_34 : decode cX5_lengthenFrom 34 = .ok (.putfield 73, 3) := by decide +kernel
theorem dX5_lengthenFrom_37 : decode cX5_lengthenFrom 37 = .ok (.aload_n 2, 1) := by decide +kernel
theorem dX5_lengthenFrom_38 : decode cX5_lengthenFrom 38 = .ok (.aload_n 0, 1) := by decide +kernel
theorem dX5_lengthenFrom_39 : decode cX5_lengthenFrom 39 = .ok (.getfield 20, 3) := by decide +kernel
theorem dX5_lengthenFrom_42 : decode cX5_lengthenFrom 42 = .ok (.iload 4, 2) := by decide +kernel
theorem dX5_lengthenFrom_44 : decode cX5_lengthenFrom 44 = .ok (.invokevirtual 63, 3) := by decide +kernel
theorem dX5_lengthenFrom_47 : decode cX5_lengthenFrom 47 = .ok (.istore 6, 2) := by decide +kernel
theorem dX5_lengthenFrom_49 : decode cX5_lengthenFrom 49 = .ok (.iload 6, 2) := by decide +kernel
theorem dX5_lengthenFrom_51 : decode cX5_lengthenFrom 51 = .ok (.ifCond .eq 22, 3) := by decide +kernel
theorem dX5_lengthenFrom_54 : decode cX5_lengthenFrom 54 = .ok (.aload_n 1, 1) := by decide +kernel
theorem dX5_lengthenFrom_55 : decode cX5_lengthenFrom 55 = .ok (.dup, 1) := by decide +kernel
theorem dX5_lengthenFrom_56 : decode cX5_lengthenFrom 56 = .ok (.getfield 67, 3) := by decide +kernel
theorem dX5_lengthenFrom_59 : decode cX5_lengthenFrom 59 = .ok (.aload_n 0, 1) := by decide +kernel
theorem dX5_lengthenFrom_60 : decode cX5_lengthenFrom 60 = .ok (.getfield 20, 3) := by decide +kernel
theorem dX5_lengthenFrom_63 : decode cX5_lengthenFrom 63 = .ok (.getfield 56, 3) := by decide +kernel
theorem dX5_lengthenFrom_66 : decode cX5_lengthenFrom 66 = .ok (.iload 5, 2) := by decide +kernel
theorem dX5_lengthenFrom_68 : decode cX5_lengthenFrom 68 = .ok (.isub, 1) := by decide +kernel
theorem dX5_lengthenFrom_69 : decode cX5_lengthenFrom 69 = .ok (.isub, 1) := by decide +kernel
theorem dX5_lengthenFrom_70 : decode cX5_lengthenFrom 70 = .ok (.putfield 67, 3) := by decide +kernel
theorem dX5_lengthenFrom_73 : decode cX5_lengthenFrom 73 = .ok (.iload 6, 2) := by decide +kernel
theorem dX5_lengthenFrom_75 : decode cX5_lengthenFrom 75 = .ok (.ireturn, 1) := by decide +kernel
theorem dX5_allDrops_0 : decode cX5_allDrops 0 = .ok (.iconst 0, 1) := by decide +kernel
theorem dX5_allDrops_1 : decode cX5_allDrops 1 = .ok (.istore_n 1, 1) := by decide +kernel
theorem dX5_allDrops_2 : decode cX5_allDrops 2 = .ok (.aload_n 0, 1) := by decide +kernel
theorem dX5_allDrops_3 : decode cX5_allDrops 3 = .ok (.getfield 11, 3) := by decide +kernel
theorem dX5_allDrops_6 : decode cX5_allDrops 6 = .ok (.astore_n 2, 1) := by decide +kernel
theorem dX5_allDrops_7 : decode cX5_allDrops 7 = .ok (.aload_n 2, 1) := by decide +kernel
theorem dX5_allDrops_8 : decode cX5_allDrops 8 = .ok (.arraylength, 1) := by decide +kernel
theorem dX5_allDrops_9 : decode cX5_allDrops 9 = .ok (.istore_n 3, 1) := by decide +kernel
theorem dX5_allDrops_10 : decode cX5_allDrops 10 = .ok (.iconst 0, 1) := by decide +kernel
theorem dX5_allDrops_11 : decode cX5_allDrops 11 = .ok (.istore 4, 2) := by decide +kernel
theorem dX5_allDrops_13 : decode cX5_allDrops 13 = .ok (.iload 4, 2) := by decide +kernel
theorem dX5_allDrops_15 : decode cX5_allDrops 15 = .ok (.iload_n 3, 1) := by decide +kernel
theorem dX5_allDrops_16 : decode cX5_allDrops 16 = .ok (.if_icmp .ge 32, 3) := by decide +kernel
theorem dX5_allDrops_19 : decode cX5_allDrops 19 = .ok (.aload_n 2, 1) := by decide +kernel
theorem dX5_allDrops_20 : decode cX5_allDrops 20 = .ok (.iload 4, 2) := by decide +kernel
theorem dX5_allDrops_22 : decode cX5_allDrops 22 = .ok (.aaload, 1) := by decide +kernel
theorem dX5_allDrops_23 : decode cX5_allDrops 23 = .ok (.astore 5, 2) := by decide +kernel
theorem dX5_allDrops_25 : decode cX5_allDrops 25 = .ok (.iload_n 1, 1) := by decide +kernel
theorem dX5_allDrops_26 : decode cX5_allDrops 26 = .ok (.aload 5, 2) := by decide +kernel
theorem dX5_allDrops_28 : decode cX5_allDrops 28 = .ok (.ifnonnull 7, 3) := by decide +kernel
theorem dX5_allDrops_31 : decode cX5_allDrops 31 = .ok (.iconst 0, 1) := by decide +kernel
theorem dX5_allDrops_32 : decode cX5_allDrops 32 = .ok (.goto 8, 3) := by decide +kernel
theorem dX5_allDrops_35 : decode cX5_allDrops 35 = .ok (.aload 5, 2) := by decide +kernel
theorem dX5_allDrops_37 : decode cX5_allDrops 37 = .ok (.getfield 73, 3) := by decide +kernel
theorem dX5_allDrops_40 : decode cX5_allDrops 40 = .ok (.iadd, 1) := by decide +kernel
theorem dX5_allDrops_41 : decode cX5_allDrops 41 = .ok (.istore_n 1, 1) := by decide +kernel
theorem dX5_allDrops_42 : decode cX5_allDrops 42 = .ok (.iinc 4 1, 3) := by decide +kernel
theorem dX5_allDrops_45 : decode cX5_allDrops 45 = .ok (.goto (-32), 3) := by decide +kernel
theorem dX5_allDrops_48 : decode cX5_allDrops 48 = .ok (.iload_n 1, 1) := by decide +kernel
theorem dX5_allDrops_49 : decode cX5_allDrops 49 = .ok (.ireturn, 1) := by decide +kernel
theorem dX5_waste_0 : decode cX5_waste 0 = .ok (.aload_n 0, 1) := by decide +kernel
theorem dX5_waste_1 : decode cX5_waste 1 = .ok (.getfield 24, 3) := by decide +kernel
theorem dX5_waste_4 : decode cX5_waste 4 = .ok (.ifnonnull 5, 3) := by decide +kernel
theorem dX5_waste_7 : decode cX5_waste 7 = .ok (.iconst (-1), 1) := by decide +kernel
theorem dX5_waste_8 : decode cX5_waste 8 = .ok (.ireturn, 1) := by decide +kernel
theorem dX5_waste_9 : decode cX5_waste 9 = .ok (.aload_n 0, 1) := by decide +kernel
theorem dX5_waste_10 : decode cX5_waste 10 = .ok (.getfield 20, 3) := by decide +kernel
theorem dX5_waste_13 : decode cX5_waste 13 = .ok (.getfield 56, 3) := by decide +kernel
theorem dX5_waste_16 : decode cX5_waste 16 = .ok (.aload_n 0, 1) := by decide +kernel
theorem dX5_waste_17 : decode cX5_waste 17 = .ok (.getfield 24, 3) := by decide +kernel
theorem dX5_waste_20 : decode cX5_waste 20 = .ok (.getfield 79, 3) := by decide +kernel
theorem dX5_waste_23 : decode cX5_waste 23 = .ok (.imul, 1) := by decide +kernel
theorem dX5_waste_24 : decode cX5_waste 24 = .ok (.istore_n 1, 1) := by decide +kernel
theorem dX5_waste_25 : decode cX5_waste 25 = .ok (.aload_n 0, 1) := by decide +kernel
theorem dX5_waste_26 : decode cX5_waste 26 = .ok (.getfield 11, 3) := by decide +kernel
theorem dX5_waste_29 : decode cX5_waste 29 = .ok (.astore_n 2, 1) := by decide +kernel
theorem dX5_waste_30 : decode cX5_waste 30 = .ok (.aload_n 2, 1) := by decide +kernel
theorem dX5_waste_31 : decode cX5_waste 31 = .ok (.arraylength, 1) := by decide +kernel
theorem dX5_waste_32 : decode cX5_waste 32 = .ok (.istore_n 3, 1) := by decide +kernel
theorem dX5_waste_33 : decode cX5_waste 33 = .ok (.iconst 0, 1) := by decide +kernel
theorem dX5_waste_34 : decode cX5_waste 34 = .ok (.istore 4, 2) := by decide +kernel
theorem dX5_waste_36 : decode cX5_waste 36 = .ok (.iload 4, 2) := by decide +kernel
theorem dX5_waste_38 : decode cX5_waste 38 = .ok (.iload_n 3, 1) := by decide +kernel
theorem dX5_waste_39 : decode cX5_waste 39 = .ok (.if_icmp .ge 38, 3) := by decide +kernel
theorem dX5_waste_42 : decode cX5_waste 42 = .ok (.aload_n 2, 1) := by decide +kernel
theorem dX5_waste_43 : decode cX5_waste 43 = .ok (.iload 4, 2) := by decide +kernel
theorem dX5_waste_45 : decode cX5_waste 45 = .ok (.aaload, 1) := by decide +kernel
theorem dX5_waste_46 : decode cX5_waste 46 = .ok (.astore 5, 2) := by decide +kernel
theorem dX5_waste_48 : decode cX5_waste 48 = .ok (.iload_n 1, 1) := by decide +kernel
theorem dX5_waste_49 : decode cX5_waste 49 = .ok (.aload 5, 2) := by decide +kernel
theorem dX5_waste_51 : decode cX5_waste 51 = .ok (.ifnonnull 7, 3) := by decide +kernel
theorem dX5_waste_54 : decode cX5_waste 54 = .ok (.iconst 0, 1) := by decide +kernel
theorem dX5_waste_55 : decode cX5_waste 55 = .ok (.goto 14, 3) := by decide +kernel
theorem dX5_waste_58 : decode cX5_waste 58 = .ok (.aload 5, 2) := by decide +kernel
theorem dX5_waste_60 : decode cX5_waste 60 = .ok (.getfield 73, 3) := by decide +kernel
theorem dX5_waste_63 : decode cX5_waste 63 = .ok (.aload 5, 2) := by decide +kernel
theorem dX5_waste_65 : decode cX5_waste 65 = .ok (.getfield 82, 3) := by decide +kernel
theorem dX5_waste_68 : decode cX5_waste 68 = .ok (.imul, 1) := by decide +kernel
theorem dX5_waste_69 : decode cX5_waste 69 = .ok (.isub, 1) := by decide +kernel
theorem dX5_waste_70 : decode cX5_waste 70 = .ok (.istore_n 1, 1) := by decide +kernel
theorem dX5_waste_71 : decode cX5_waste 71 = .ok (.iinc 4 1, 3) := by decide +kernel
theorem dX5_waste_74 : decode cX5_waste 74 = .ok (.goto (-38), 3) := by decide +kernel
theorem dX5_waste_77 : decode cX5_waste 77 = .ok (.iload_n 1, 1) := by decide +kernel
theorem dX5_waste_78 : decode cX5_waste 78 = .ok (.ireturn, 1) := by decide +kernel
theorem dX6_init_0 : decode cX6_init 0 = .ok (.aload_n 0, 1) := by decide +kernel
theorem dX6_init_1 : decode cX6_init 1 = .ok (.invokespecial 3, 3) := by decide +kernel
theorem dX6_init_4 : decode cX6_init 4 = .ok (.aload_n 0, 1) := by decide +kernel
theorem dX6_init_5 : decode cX6_init 5 = .ok (.bipush 24, 2) := by decide +kernel
theorem dX6_init_7 : decode cX6_init 7 = .ok (.newarray .int, 2) := by decide +kernel
theorem dX6_init_9 : decode cX6_init 9 = .ok (.putfield 9, 3) := by decide +kernel
theorem dX6_init_12 : decode cX6_init 12 = .ok (.aload_n 0, 1) := by decide +kernel
theorem dX6_init_13 : decode cX6_init 13 = .ok (.iload_n 1, 1) := by decide +kernel
theorem dX6_init_14 : decode cX6_init 14 = .ok (.putfield 15, 3) := by decide +kernel
theorem dX6_init_17 : decode cX6_init 17 = .ok (.aload_n 0, 1) := by decide +kernel
theorem dX6_init_18 : decode cX6_init 18 = .ok (.iload_n 2, 1) := by decide +kernel
theorem dX6_init_19 : decode cX6_init 19 = .ok (.putfield 19, 3) := by decide +kernel
theorem dX6_init_22 : decode cX6_init 22 = .ok (.return_, 1) := by decide +kernel
theorem dX6_takeDrops_0 : decode cX6_takeDrops 0 = .ok (.iload_n 2, 1) := by decide +kernel
theorem dX6_takeDrops_1 : decode cX6_takeDrops 1 = .ok (.iconst 0, 1) := by decide +kernel
theorem dX6_takeDrops_2 : decode cX6_takeDrops 2 = .ok (.invokestatic 22, 3) := by decide +kernel
theorem dX6_takeDrops_5 : decode cX6_takeDrops 5 = .ok (.istore_n 3, 1) := by decide +kernel
theorem dX6_takeDrops_6 : decode cX6_takeDrops 6 = .ok (.iload_n 3, 1) := by decide +kernel
theorem dX6_takeDrops_7 : decode cX6_takeDrops 7 = .ok (.aload_n 0, 1) := by decide +kernel
theorem dX6_takeDrops_8 : decode cX6_takeDrops 8 = .ok (.getfield 15, 3) := by decide +kernel
theorem dX6_takeDrops_11 : decode cX6_takeDrops 11 = .ok (.if_icmp .ge 44, 3) := by decide +kernel
theorem dX6_takeDrops_14 : decode cX6_takeDrops 14 = .ok (.iload_n 3, 1) := by decide +kernel
theorem dX6_takeDrops_15 : decode cX6_takeDrops 15 = .ok (.aload_n 0, 1) := by decide +kernel
theorem dX6_takeDrops_16 : decode cX6_takeDrops 16 = .ok (.getfield 9, 3) := by decide +kernel
theorem dX6_takeDrops_19 : decode cX6_takeDrops 19 = .ok (.arraylength, 1) := by decide +kernel
theorem dX6_takeDrops_20 : decode cX6_takeDrops 20 = .ok (.if_icmp .ge 35, 3) := by decide +kernel
theorem dX6_takeDrops_23 : decode cX6_takeDrops 23 = .ok (.aload_n 0, 1) := by decide +kernel
theorem dX6_takeDrops_24 : decode cX6_takeDrops 24 = .ok (.getfield 9, 3) := by decide +kernel
theorem dX6_takeDrops_27 : decode cX6_takeDrops 27 = .ok (.iload_n 3, 1) := by decide +kernel
theorem dX6_takeDrops_28 : decode cX6_takeDrops 28 = .ok (.aload_n 1, 1) := by decide +kernel
theorem dX6_takeDrops_29 : decode cX6_takeDrops 29 = .ok (.aload_n 0, 1) := by decide +kernel
theorem dX6_takeDrops_30 : decode cX6_takeDrops 30 = .ok (.getfield 19, 3) := by decide +kernel
theorem dX6_takeDrops_33 : decode cX6_takeDrops 33 = .ok (.invokevirtual 28, 3) := by decide +kernel
theorem dX6_takeDrops_36 : decode cX6_takeDrops 36 = .ok (.iastore, 1) := by decide +kernel
theorem dX6_takeDrops_37 : decode cX6_takeDrops 37 = .ok (.aload_n 0, 1) := by decide +kernel
theorem dX6_takeDrops_38 : decode cX6_takeDrops 38 = .ok (.getfield 9, 3) := by decide +kernel
theorem dX6_takeDrops_41 : decode cX6_takeDrops 41 = .ok (.iload_n 3, 1) := by decide +kernel
theorem dX6_takeDrops_42 : decode cX6_takeDrops 42 = .ok (.iaload, 1) := by decide +kernel
theorem dX6_takeDrops_43 : decode cX6_takeDrops 43 = .ok (.iconst (-1), 1) := by decide +kernel
theorem dX6_takeDrops_44 : decode cX6_takeDrops 44 = .ok (.if_icmp .ne 5, 3) := by decide +kernel
theorem dX6_takeDrops_47 : decode cX6_takeDrops 47 = .ok (.iconst 0, 1) := by decide +kernel
theorem dX6_takeDrops_48 : decode cX6_takeDrops 48 = .ok (.ireturn, 1) := by decide +kernel
theorem dX6_takeDrops_49 : decode cX6_takeDrops 49 = .ok (.iinc 3 1, 3) := by decide +kernel
theorem dX6_takeDrops_52 : decode cX6_takeDrops 52 = .ok (.goto (-46), 3) := by decide +kernel
theorem dX6_takeDrops_55 : decode cX6_takeDrops 55 = .ok (.iconst 1, 1) := by decide +kernel
theorem dX6_takeDrops_56 : decode cX6_takeDrops 56 = .ok (.ireturn, 1) := by decide +kernel
theorem dX7_init_0 : decode cX7_init 0 = .ok (.aload_n 0, 1) := by decide +kernel
theorem dX7_init_1 : decode cX7_init 1 = .ok (.invokespecial 3, 3) := by decide +kernel
theorem dX7_init_4 : decode cX7_init 4 = .ok (.aload_n 0, 1) := by decide +kernel
theorem dX7_init_5 : decode cX7_init 5 = .ok (.bipush 6, 2) := by decide +kernel
theorem dX7_init_7 : decode cX7_init 7 = .ok (.anewarray 9, 3) := by decide +kernel
theorem dX7_init_10 : decode cX7_init 10 = .ok (.putfield 11, 3) := by decide +kernel
theorem dX7_init_13 : decode cX7_init 13 = .ok (.aload_n 0, 1) := by decide +kernel
theorem dX7_init_14 : decode cX7_init 14 = .ok (.bipush 8, 2) := by decide +kernel
theorem dX7_init_16 : decode cX7_init 16 = .ok (.anewarray 15, 3) := by decide +kernel
theorem dX7_init_19 : decode cX7_init 19 = .ok (.putfield 17, 3) := by decide +kernel
theorem dX7_init_22 : decode cX7_init 22 = .ok (.aload_n 0, 1) := by decide +kernel
theorem dX7_init_23 : decode cX7_init 23 = .ok (.bipush 10, 2) := by decide +kernel
theorem dX7_init_25 : decode cX7_init 25 = .ok (.anewarray 21, 3) := by decide +kernel
theorem dX7_init_28 : decode cX7_init 28 = .ok (.putfield 23, 3) := by decide +kernel
theorem dX7_init_31 : decode cX7_init 31 = .ok (.aload_n 0, 1) := by decide +kernel
theorem dX7_init_32 : decode cX7_init 32 = .ok (.iconst 4, 1) := by decide +kernel
theorem dX7_init_33 : decode cX7_init 33 = .ok (.anewarray 27, 3) := by decide +kernel
theorem dX7_init_36 : decode cX7_init 36 = .ok (.putfield 29, 3) := by decide +kernel
theorem dX7_init_39 : decode cX7_init 39 = .ok (.iconst 0, 1) := by decide +kernel
theorem dX7_init_40 : decode cX7_init 40 = .ok (.istore_n 1, 1) := by decide +kernel
theorem dX7_init_41 : decode cX7_init 41 = .ok (.iload_n 1, 1) := by decide +kernel
theorem dX7_init_42 : decode cX7_init 42 = .ok (.aload_n 0, 1) := by decide +kernel
theorem dX7_init_43 : decode cX7_init 43 = .ok (.getfield 29, 3) := by decide +kernel
theorem dX7_init_46 : decode cX7_init 46 = .ok (.arraylength, 1) := by decide +kernel
theorem dX7_init_47 : decode cX7_init 47 = .ok (.if_icmp .ge 22, 3) := by decide +kernel
theorem dX7_init_50 : decode cX7_init 50 = .ok (.aload_n 0, 1) := by decide +kernel
theorem dX7_init_51 : decode cX7_init 51 = .ok (.getfield 29, 3) := by decide +kernel
theorem dX7_init_54 : decode cX7_init 54 = .ok (.iload_n 1, 1) := by decide +kernel
theorem dX7_init_55 : decode cX7_init 55 = .ok (.new 27, 3) := by decide +kernel
theorem dX7_init_58 : decode cX7_init 58 = .ok (.dup, 1) := by decide +kernel
theorem dX7_init_59 : decode cX7_init 59 = .ok (.invokespecial 33, 3) := by decide +kernel
theorem dX7_init_62 : decode cX7_init 62 = .ok (.aastore, 1) := by decide +kernel
theorem dX7_init_63 : decode cX7_init 63 = .ok (.iinc 1 1, 3) := by decide +kernel
theorem dX7_init_66 : decode cX7_init 66 = .ok (.goto (-25), 3) := by decide +kernel
theorem dX7_init_69 : decode cX7_init 69 = .ok (.return_, 1) := by decide +kernel
theorem dX7_pattern_0 : decode cX7_pattern 0 = .ok (.iload_n 1, 1) := by decide +kernel
theorem dX7_pattern_1 : decode cX7_pattern 1 = .ok (.iconst 1, 1) := by decide +kernel
theorem dX7_pattern_2 : decode cX7_pattern 2 = .ok (.iconst 5, 1) := by decide +kernel
theorem dX7_pattern_3 : decode cX7_pattern 3 = .ok (.invokestatic 34, 3) := by decide +kernel
theorem dX7_pattern_6 : decode cX7_pattern 6 = .ok (.iload_n 2, 1) := by decide +kernel
theorem dX7_pattern_7 : decode cX7_pattern 7 = .ok (.iconst 1, 1) := by decide +kernel
theorem dX7_pattern_8 : decode cX7_pattern 8 = .ok (.iconst 5, 1) := by decide +kernel
theorem dX7_pattern_9 : decode cX7_pattern 9 = .ok (.invokestatic 34, 3) := by decide +kernel
theorem dX7_pattern_12 : decode cX7_pattern 12 = .ok (.iload_n 3, 1) := by decide +kernel
theorem dX7_pattern_13 : decode cX7_pattern 13 = .ok (.iconst 0, 1) := by decide +kernel
theorem dX7_pattern_14 : decode cX7_pattern 14 = .ok (.iconst 5, 1) := by decide +kernel
theorem dX7_pattern_15 : decode cX7_pattern 15 = .ok (.invokestatic 34, 3) := by decide +kernel
theorem dX7_pattern_18 : decode cX7_pattern 18 = .ok (.iload_n 3, 1) := by decide +kernel
theorem dX7_pattern_19 : decode cX7_pattern 19 = .ok (.iconst 5, 1) := by decide +kernel
theorem dX7_pattern_20 : decode cX7_pattern 20 = .ok (.if_icmp .ne 18, 3) := by decide +kernel
theorem dX7_pattern_23 : decode cX7_pattern 23 = .ok (.iload_n 1, 1) := by decide +kernel
theorem dX7_pattern_24 : decode cX7_pattern 24 = .ok (.iload_n 2, 1) := by decide +kernel
theorem dX7_pattern_25 : decode cX7_pattern 25 = .ok (.if_icmp .eq 13, 3) := by decide +kernel
theorem dX7_pattern_28 : decode cX7_pattern 28 = .ok (.new 38, 3) := by decide +kernel
theorem dX7_pattern_31 : decode cX7_pattern 31 = .ok (.dup, 1) := by decide +kernel
theorem dX7_pattern_32 : decode cX7_pattern 32 = .ok (.ldc 40, 2) := by decide +kernel
theorem dX7_pattern_34 : decode cX7_pattern 34 = .ok (.invokespecial 42, 3) := by decide +kernel
theorem dX7_pattern_37 : decode cX7_pattern 37 = .ok (.athrow, 1) := by decide +kernel
theorem dX7_pattern_38 : decode cX7_pattern 38 = .ok (.aload_n 0, 1) := by decide +kernel
theorem dX7_pattern_39 : decode cX7_pattern 39 = .ok (.getfield 45, 3) := by decide +kernel
theorem dX7_pattern_42 : decode cX7_pattern 42 = .ok (.istore 4, 2) := by decide +kernel
theorem dX7_pattern_44 : decode cX7_pattern 44 = .ok (.iload 4, 2) := by decide +kernel
theorem dX7_pattern_46 : decode cX7_pattern 46 = .ok (.ifCond .lt 13, 3) := by decide +kernel
theorem dX7_pattern_49 : decode cX7_pattern 49 = .ok (.iload 4, 2) := by decide +kernel
theorem dX7_pattern_51 : decode cX7_pattern 51 = .ok (.aload_n 0, 1) := by decide +kernel
theorem dX7_pattern_52 : decode cX7_pattern 52 = .ok (.getfield 11, 3) := by decide +kernel
theorem dX7_pattern_55 : decode cX7_pattern 55 = .ok (.arraylength, 1) := by decide +kernel
theorem dX7_pattern_56 : decode cX7_pattern 56 = .ok (.if_icmp .lt 13, 3) := by decide +kernel
theorem dX7_pattern_59 : decode cX7_pattern 59 = .ok (.new 49, 3) := by decide +kernel
theorem dX7_pattern_62 : decode cX7_pattern 62 = .ok (.dup, 1) := by decide +kernel
theorem dX7_pattern_63 : decode cX7_pattern 63 = .ok (.ldc 51, 2) := by decide +kernel
theorem dX7_pattern_65 : decode cX7_pattern 65 = .ok (.invokespecial 53, 3) := by decide +kernel
theorem dX7_pattern_68 : decode cX7_pattern 68 = .ok (.athrow, 1) := by decide +kernel
theorem dX7_pattern_69 : decode cX7_pattern 69 = .ok (.aload_n 0, 1) := by decide +kernel
theorem dX7_pattern_70 : decode cX7_pattern 70 = .ok (.getfield 11, 3) := by decide +kernel
theorem dX7_pattern_73 : decode cX7_pattern 73 = .ok (.iload 4, 2) := by decide +kernel
theorem dX7_pattern_75 : decode cX7_pattern 75 = .ok (.new 9, 3) := by decide +kernel
theorem dX7_pattern_78 : decode cX7_pattern 78 = .ok (.dup, 1) := by decide +kernel
theorem dX7_pattern_79 : decode cX7_pattern 79 = .ok (.iload_n 1, 1) := by decide +kernel
theorem dX7_pattern_80 : decode cX7_pattern 80 = .ok (.iload_n 2, 1) := by decide +kernel
theorem dX7_pattern_81 : decode cX7_pattern 81 = .ok (.iload_n 3, 1) := by decide +kernel
theorem dX7_pattern_82 : decode cX7_pattern 82 = .ok (.invokespecial 54, 3) := by decide +kernel
theorem dX7_pattern_85 : decode cX7_pattern 85 = .ok (.aastore, 1) := by decide +kernel
theorem dX7_pattern_86 : decode cX7_pattern 86 = .ok (.aload_n 0, 1) := by decide +kernel
theorem dX7_pattern_87 : decode cX7_pattern 87 = .ok (.iload 4, 2) := by decide +kernel
theorem dX7_pattern_89 : decode cX7_pattern 89 = .ok (.iconst 1, 1) := by decide +kernel
theorem dX7_pattern_90 : decode cX7_pattern 90 = .ok (.iadd, 1) := by decide +kernel
theorem dX7_pattern_91 : decode cX7_pattern 91 = .ok (.putfield 45, 3) := by decide +kernel
theorem dX7_pattern_94 : decode cX7_pattern 94 = .ok (.iload 4, 2) := by decide +kernel
theorem dX7_pattern_96 : decode cX7_pattern 96 = .ok (.ireturn, 1) := by decide +kernel
theorem dX7_paint_0 : decode cX7_paint 0 = .ok (.aload_n 0, 1) := by decide +kernel
theorem dX7_paint_1 : decode cX7_paint 1 = .ok (.iload_n 1, 1) := by decide +kernel
theorem dX7_paint_2 : decode cX7_paint 2 = .ok (.invokevirtual 56, 3) := by decide +kernel
theorem dX7_paint_5 : decode cX7_paint 5 = .ok (.astore 5, 2) := by decide +kernel
theorem dX7_paint_7 : decode cX7_paint 7 = .ok (.aload 5, 2) := by decide +kernel
theorem dX7_paint_9 : decode cX7_paint 9 = .ok (.getfield 60, 3) := by decide +kernel
theorem dX7_paint_12 : decode cX7_paint 12 = .ok (.iload_n 2, 1) := by decide +kernel
theorem dX7_paint_13 : decode cX7_paint 13 = .ok (.iload_n 3, 1) := by decide +kernel
theorem dX7_paint_14 : decode cX7_paint 14 = .ok (.invokevirtual 64, 3) := by decide +kernel
theorem dX7_paint_17 : decode cX7_paint 17 = .ok (.ifCond .ne 13, 3) := by decide +kernel
theorem dX7_paint_20 : decode cX7_paint 20 = .ok (.new 70, 3) := by decide +kernel
theorem dX7_paint_23 : decode cX7_paint 23 = .ok (.dup, 1) := by decide +kernel
theorem dX7_paint_24 : decode cX7_paint 24 = .ok (.ldc 72, 2) := by decide +kernel
theorem dX7_paint_26 : decode cX7_paint 26 = .ok (.invokespecial 74, 3) := by decide +kernel
theorem dX7_paint_29 : decode cX7_paint 29 = .ok (.athrow, 1) := by decide +kernel
theorem dX7_paint_30 : decode cX7_paint 30 = .ok (.iload 4, 2) := by decide +kernel
theorem dX7_paint_32 : decode cX7_paint 32 = .ok (.iconst 0, 1) := by decide +kernel
theorem dX7_paint_33 : decode cX7_paint 33 = .ok (.bipush 7, 2) := by decide +kernel
theorem dX7_paint_35 : decode cX7_paint 35 = .ok (.invokestatic 34, 3) := by decide +kernel
theorem dX7_paint_38 : decode cX7_paint 38 = .ok (.aload 5, 2) := by decide +kernel
theorem dX7_paint_40 : decode cX7_paint 40 = .ok (.getfield 60, 3) := by decide +kernel
theorem dX7_paint_43 : decode cX7_paint 43 = .ok (.iload_n 2, 1) := by decide +kernel
theorem dX7_paint_44 : decode cX7_paint 44 = .ok (.iload_n 3, 1) := by decide +kernel
theorem dX7_paint_45 : decode cX7_paint 45 = .ok (.invokevirtual 75, 3) := by decide +kernel
theorem dX7_paint_48 : decode cX7_paint 48 = .ok (.istore 6, 2) := by decide +kernel
theorem dX7_paint_50 : decode cX7_paint 50 = .ok (.aload 5, 2) := by decide +kernel
theorem dX7_paint_52 : decode cX7_paint 52 = .ok (.getfield 60, 3) := by decide +kernel
theorem dX7_paint_55 : decode cX7_paint 55 = .ok (.iload_n 2, 1) := by decide +kernel
theorem dX7_paint_56 : decode cX7_paint 56 = .ok (.iload_n 3, 1) := by decide +kernel
theorem dX7_paint_57 : decode cX7_paint 57 = .ok (.iload 4, 2) := by decide +kernel
theorem dX7_paint_59 : decode cX7_paint 59 = .ok (.invokevirtual 79, 3) := by decide +kernel
theorem dX7_paint_62 : decode cX7_paint 62 = .ok (.iload 6, 2) := by decide +kernel
theorem dX7_paint_64 : decode cX7_paint 64 = .ok (.ireturn, 1) := by decide +kernel
theorem dX7_colour_0 : decode cX7_colour 0 = .ok (.aload_n 0, 1) := by decide +kernel
theorem dX7_colour_1 : decode cX7_colour 1 = .ok (.iload_n 1, 1) := by decide +kernel
theorem dX7_colour_2 : decode cX7_colour 2 = .ok (.invokevirtual 56, 3) := by decide +kernel
theorem dX7_colour_5 : decode cX7_colour 5 = .ok (.iload_n 2, 1) := by decide +kernel
theorem dX7_colour_6 : decode cX7_colour 6 = .ok (.iload_n 3, 1) := by decide +kernel
theorem dX7_colour_7 : decode cX7_colour 7 = .ok (.invokevirtual 82, 3) := by decide +kernel
theorem dX7_colour_10 : decode cX7_colour 10 = .ok (.ireturn, 1) := by decide +kernel
theorem dX7_repeat_0 : decode cX7_repeat 0 = .ok (.aload_n 0, 1) := by decide +kernel
theorem dX7_repeat_1 : decode cX7_repeat 1 = .ok (.iload_n 1, 1) := by decide +kernel
theorem dX7_repeat_2 : decode cX7_repeat 2 = .ok (.invokevirtual 56, 3) := by decide +kernel
theorem dX7_repeat_5 : decode cX7_repeat 5 = .ok (.astore_n 3, 1) := by decide +kernel
theorem dX7_repeat_6 : decode cX7_repeat 6 = .ok (.iload_n 2, 1) := by decide +kernel
theorem dX7_repeat_7 : decode cX7_repeat 7 = .ok (.ifCond .eq 10, 3) := by decide +kernel
theorem dX7_repeat_10 : decode cX7_repeat 10 = .ok (.aload_n 3, 1) := by decide +kernel
theorem dX7_repeat_11 : decode cX7_repeat 11 = .ok (.getfield 83, 3) := by decide +kernel
theorem dX7_repeat_14 : decode cX7_repeat 14 = .ok (.goto 7, 3) := by decide +kernel
theorem dX7_repeat_17 : decode cX7_repeat 17 = .ok (.aload_n 3, 1) := by decide +kernel
theorem dX7_repeat_18 : decode cX7_repeat 18 = .ok (.getfield 86, 3) := by decide +kernel
theorem dX7_repeat_21 : decode cX7_repeat 21 = .ok (.ireturn, 1) := by decide +kernel
theorem dX7_repeatAnew_0 : decode cX7_repeatAnew 0 = .ok (.aload_n 0, 1) := by decide +kernel
theorem dX7_repeatAnew_1 : decode cX7_repeatAnew 1 = .ok (.iload_n 1, 1) := by decide +kernel
theorem dX7_repeatAnew_2 : decode cX7_repeatAnew 2 = .ok (.invokevirtual 56, 3) := by decide +kernel
theorem dX7_repeatAnew_5 : decode cX7_repeatAnew 5 = .ok (.iload_n 2, 1) := by decide +kernel
theorem dX7_repeatAnew_6 : decode cX7_repeatAnew 6 = .ok (.invokevirtual 89, 3) := by decide +kernel
theorem dX7_repeatAnew_9 : decode cX7_repeatAnew 9 = .ok (.ireturn, 1) := by decide +kernel
theorem dX7_roller_0 : decode cX7_roller 0 = .ok (.aload_n 0, 1) := by decide +kernel
theorem dX7_roller_1 : decode cX7_roller 1 = .ok (.iload_n 1, 1) := by decide +kernel
theorem dX7_roller_2 : decode cX7_roller 2 = .ok (.invokevirtual 56, 3) := by decide +kernel
theorem dX7_roller_5 : decode cX7_roller 5 = .ok (.astore_n 3, 1) := by decide +kernel
theorem dX7_roller_6 : decode cX7_roller 6 = .ok (.iload_n 2, 1) := by decide +kernel
theorem dX7_roller_7 : decode cX7_roller 7 = .ok (.iconst 1, 1) := by decide +kernel
theorem dX7_roller_8 : decode cX7_roller 8 = .ok (.bipush 60, 2) := by decide +kernel
theorem dX7_roller_10 : decode cX7_roller 10 = .ok (.invokestatic 34, 3) := by decide +kernel
theorem dX7_roller_13 : decode cX7_roller 13 = .ok (.iload_n 2, 1) := by decide +kernel
theorem dX7_roller_14 : decode cX7_roller 14 = .ok (.aload_n 3, 1) := by decide +kernel
theorem dX7_roller_15 : decode cX7_roller 15 = .ok (.getfield 83, 3) := by decide +kernel
theorem dX7_roller_18 : decode cX7_roller 18 = .ok (.invokestatic 93, 3) := by decide +kernel
theorem dX7_roller_21 : decode cX7_roller 21 = .ok (.ifCond .eq 13, 3) := by decide +kernel
theorem dX7_roller_24 : decode cX7_roller 24 = .ok (.new 49, 3) := by decide +kernel
theorem dX7_roller_27 : decode cX7_roller 27 = .ok (.dup, 1) := by decide +kernel
theorem dX7_roller_28 : decode cX7_roller 28 = .ok (.ldc 96, 2) := by decide +kernel
theorem dX7_roller_30 : decode cX7_roller 30 = .ok (.invokespecial 53, 3) := by decide +kernel
theorem dX7_roller_33 : decode cX7_roller 33 = .ok (.athrow, 1) := by decide +kernel
theorem dX7_roller_34 : decode cX7_roller 34 = .ok (.aload_n 0, 1) := by decide +kernel
theorem dX7_roller_35 : decode cX7_roller 35 = .ok (.getfield 98, 3) := by decide +kernel
theorem dX7_roller_38 : decode cX7_roller 38 = .ok (.istore 4, 2) := by decide +kernel
theorem dX7_roller_40 : decode cX7_roller 40 = .ok (.iload 4, 2) := by decide +kernel
theorem dX7_roller_42 : decode cX7_roller 42 = .ok (.ifCond .lt 13, 3) := by decide +kernel
theorem dX7_roller_45 : decode cX7_roller 45 = .ok (.iload 4, 2) := by decide +kernel
theorem dX7_roller_47 : decode cX7_roller 47 = .ok (.aload_n 0, 1) := by decide +kernel
theorem dX7_roller_48 : decode cX7_roller 48 = .ok (.getfield 17, 3) := by decide +kernel
theorem dX7_roller_51 : decode cX7_roller 51 = .ok (.arraylength, 1) := by decide +kernel
theorem dX7_roller_52 : decode cX7_roller 52 = .ok (.if_icmp .lt 13, 3) := by decide +kernel
theorem dX7_roller_55 : decode cX7_roller 55 = .ok (.new 49, 3) := by decide +kernel
theorem dX7_roller_58 : decode cX7_roller 58 = .ok (.dup, 1) := by decide +kernel
theorem dX7_roller_59 : decode cX7_roller 59 = .ok (.ldc 101, 2) := by decide +kernel
theorem dX7_roller_61 : decode cX7_roller 61 = .ok (.invokespecial 53, 3) := by decide +kernel
theorem dX7_roller_64 : decode cX7_roller 64 = .ok (.athrow, 1) := by decide +kernel
theorem dX7_roller_65 : decode cX7_roller 65 = .ok (.aload_n 0, 1) := by decide +kernel
theorem dX7_roller_66 : decode cX7_roller 66 = .ok (.getfield 17, 3) := by decide +kernel
theorem dX7_roller_69 : decode cX7_roller 69 = .ok (.iload 4, 2) := by decide +kernel
theorem dX7_roller_71 : decode cX7_roller 71 = .ok (.new 15, 3) := by decide +kernel
theorem dX7_roller_74 : decode cX7_roller 74 = .ok (.dup, 1) := by decide +kernel
theorem dX7_roller_75 : decode cX7_roller 75 = .ok (.iload_n 2, 1) := by decide +kernel
theorem dX7_roller_76 : decode cX7_roller 76 = .ok (.aload_n 3, 1) := by decide +kernel
theorem dX7_roller_77 : decode cX7_roller 77 = .ok (.invokevirtual 103, 3) := by decide +kernel
theorem dX7_roller_80 : decode cX7_roller 80 = .ok (.invokespecial 107, 3) := by decide +kernel
theorem dX7_roller_83 : decode cX7_roller 83 = .ok (.aastore, 1) := by decide +kernel
theorem dX7_roller_84 : decode cX7_roller 84 = .ok (.aload_n 0, 1) := by decide +kernel
theorem dX7_roller_85 : decode cX7_roller 85 = .ok (.iload 4, 2) := by decide +kernel
theorem dX7_roller_87 : decode cX7_roller 87 = .ok (.iconst 1, 1) := by decide +kernel
theorem dX7_roller_88 : decode cX7_roller 88 = .ok (.iadd, 1) := by decide +kernel
theorem dX7_roller_89 : decode cX7_roller 89 = .ok (.putfield 98, 3) := by decide +kernel
theorem dX7_roller_92 : decode cX7_roller 92 = .ok (.iload 4, 2) := by decide +kernel
theorem dX7_roller_94 : decode cX7_roller 94 = .ok (.ireturn, 1) := by decide +kernel
theorem dX7_lot_0 : decode cX7_lot 0 = .ok (.aload_n 0, 1) := by decide +kernel
theorem dX7_lot_1 : decode cX7_lot 1 = .ok (.iload_n 1, 1) := by decide +kernel
theorem dX7_lot_2 : decode cX7_lot 2 = .ok (.invokevirtual 110, 3) := by decide +kernel
theorem dX7_lot_5 : decode cX7_lot 5 = .ok (.astore 5, 2) := by decide +kernel
theorem dX7_lot_7 : decode cX7_lot 7 = .ok (.iload_n 2, 1) := by decide +kernel
theorem dX7_lot_8 : decode cX7_lot 8 = .ok (.iconst 0, 1) := by decide +kernel
theorem dX7_lot_9 : decode cX7_lot 9 = .ok (.bipush 9, 2) := by decide +kernel
theorem dX7_lot_11 : decode cX7_lot 11 = .ok (.invokestatic 34, 3) := by decide +kernel
theorem dX7_lot_14 : decode cX7_lot 14 = .ok (.iload_n 3, 1) := by decide +kernel
theorem dX7_lot_15 : decode cX7_lot 15 = .ok (.iconst 1, 1) := by decide +kernel
theorem dX7_lot_16 : decode cX7_lot 16 = .ok (.bipush 20, 2) := by decide +kernel
theorem dX7_lot_18 : decode cX7_lot 18 = .ok (.invokestatic 34, 3) := by decide +kernel
theorem dX7_lot_21 : decode cX7_lot 21 = .ok (.iload 4, 2) := by decide +kernel
theorem dX7_lot_23 : decode cX7_lot 23 = .ok (.iconst 1, 1) := by decide +kernel
theorem dX7_lot_24 : decode cX7_lot 24 = .ok (.sipush 200, 3) := by decide +kernel
theorem dX7_lot_27 : decode cX7_lot 27 = .ok (.invokestatic 34, 3) := by decide +kernel
theorem dX7_lot_30 : decode cX7_lot 30 = .ok (.aload_n 0, 1) := by decide +kernel
theorem dX7_lot_31 : decode cX7_lot 31 = .ok (.getfield 114, 3) := by decide +kernel
theorem dX7_lot_34 : decode cX7_lot 34 = .ok (.istore 6, 2) := by decide +kernel
theorem dX7_lot_36 : decode cX7_lot 36 = .ok (.iload 6, 2) := by decide +kernel
theorem dX7_lot_38 : decode cX7_lot 38 = .ok (.ifCond .lt 13, 3) := by decide +kernel
theorem dX7_lot_41 : decode cX7_lot 41 = .ok (.iload 6, 2) := by decide +kernel
theorem dX7_lot_43 : decode cX7_lot 43 = .ok (.aload_n 0, 1) := by decide +kernel
theorem dX7_lot_44 : decode cX7_lot 44 = .ok (.getfield 23, 3) := by decide +kernel
theorem dX7_lot_47 : decode cX7_lot 47 = .ok (.arraylength, 1) := by decide +kernel
theorem dX7_lot_48 : decode cX7_lot 48 = .ok (.if_icmp .lt 13, 3) := by decide +kernel
theorem dX7_lot_51 : decode cX7_lot 51 = .ok (.new 49, 3) := by decide +kernel
theorem dX7_lot_54 : decode cX7_lot 54 = .ok (.dup, 1) := by decide +kernel
theorem dX7_lot_55 : decode cX7_lot 55 = .ok (.ldc 117, 2) := by decide +kernel
theorem dX7_lot_57 : decode cX7_lot 57 = .ok (.invokespecial 53, 3) := by decide +kernel
theorem dX7_lot_60 : decode cX7_lot 60 = .ok (.athrow, 1) := by decide +kernel
theorem dX7_lot_61 : decode cX7_lot 61 = .ok (.aload_n 0, 1) := by decide +kernel
theorem dX7_lot_62 : decode cX7_lot 62 = .ok (.getfield 23, 3) := by decide +kernel
theorem dX7_lot_65 : decode cX7_lot 65 = .ok (.iload 6, 2) := by decide +kernel
theorem dX7_lot_67 : decode cX7_lot 67 = .ok (.new 21, 3) := by decide +kernel
theorem dX7_lot_70 : decode cX7_lot 70 = .ok (.dup, 1) := by decide +kernel
theorem dX7_lot_71 : decode cX7_lot 71 = .ok (.aload 5, 2) := by decide +kernel
theorem dX7_lot_73 : decode cX7_lot 73 = .ok (.iload_n 1, 1) := by decide +kernel
theorem dX7_lot_74 : decode cX7_lot 74 = .ok (.iload_n 2, 1) := by decide +kernel
theorem dX7_lot_75 : decode cX7_lot 75 = .ok (.iload_n 3, 1) := by decide +kernel
theorem dX7_lot_76 : decode cX7_lot 76 = .ok (.iload 4, 2) := by decide +kernel
theorem dX7_lot_78 : decode cX7_lot 78 = .ok (.invokespecial 119, 3) := by decide +kernel
theorem dX7_lot_81 : decode cX7_lot 81 = .ok (.aastore, 1) := by decide +kernel
theorem dX7_lot_82 : decode cX7_lot 82 = .ok (.aload_n 0, 1) := by decide +kernel
theorem dX7_lot_83 : decode cX7_lot 83 = .ok (.iload 6, 2) := by decide +kernel
theorem dX7_lot_85 : decode cX7_lot 85 = .ok (.iconst 1, 1) := by decide +kernel
theorem dX7_lot_86 : decode cX7_lot 86 = .ok (.iadd, 1) := by decide +kernel
theorem dX7_lot_87 : decode cX7_lot 87 = .ok (.putfield 114, 3) := by decide +kernel
theorem dX7_lot_90 : decode cX7_lot 90 = .ok (.iload 6, 2) := by decide +kernel
theorem dX7_lot_92 : decode cX7_lot 92 = .ok (.ireturn, 1) := by decide +kernel
theorem dX7_lotOf_0 : decode cX7_lotOf 0 = .ok (.aload_n 0, 1) := by decide +kernel
theorem dX7_lotOf_1 : decode cX7_lotOf 1 = .ok (.iload_n 1, 1) := by decide +kernel
theorem dX7_lotOf_2 : decode cX7_lotOf 2 = .ok (.invokevirtual 122, 3) := by decide +kernel
theorem dX7_lotOf_5 : decode cX7_lotOf 5 = .ok (.astore_n 3, 1) := by decide +kernel
theorem dX7_lotOf_6 : decode cX7_lotOf 6 = .ok (.iload_n 2, 1) := by decide +kernel
theorem dX7_lotOf_7 : decode cX7_lotOf 7 = .ok (.tableswitch 58 0 4 #[33, 38, 43, 48, 53], 33) := by decide +kernel
theorem dX7_lotOf_40 : decode cX7_lotOf 40 = .ok (.aload_n 3, 1) := by decide +kernel
theorem dX7_lotOf_41 : decode cX7_lotOf 41 = .ok (.getfield 126, 3) := by decide +kernel
theorem dX7_lotOf_44 : decode cX7_lotOf 44 = .ok (.ireturn, 1) := by decide +kernel
theorem dX7_lotOf_45 : decode cX7_lotOf 45 = .ok (.aload_n 3, 1) := by decide +kernel
theorem dX7_lotOf_46 : decode cX7_lotOf 46 = .ok (.getfield 129, 3) := by decide +kernel
theorem dX7_lotOf_49 : decode cX7_lotOf 49 = .ok (.ireturn, 1) := by decide +kernel
theorem dX7_lotOf_50 : decode cX7_lotOf 50 = .ok (.aload_n 3, 1) := by decide +kernel
theorem dX7_lotOf_51 : decode cX7_lotOf 51 = .ok (.getfield 132, 3) := by decide +kernel
theorem dX7_lotOf_54 : decode cX7_lotOf 54 = .ok (.ireturn, 1) := by decide +kernel
theorem dX7_lotOf_55 : decode cX7_lotOf 55 = .ok (.aload_n 3, 1) := by decide +kernel
theorem dX7_lotOf_56 : decode cX7_lotOf 56 = .ok (.getfield 135, 3) := by decide +kernel
theorem dX7_lotOf_59 : decode cX7_lotOf 59 = .ok (.ireturn, 1) := by decide +kernel
theorem dX7_lotOf_60 : decode cX7_lotOf 60 = .ok (.aload_n 3, 1) := by decide +kernel
theorem dX7_lotOf_61 : decode cX7_lotOf 61 = .ok (.invokevirtual 138, 3) := by decide +kernel
theorem dX7_lotOf_64 : decode cX7_lotOf 64 = .ok (.ireturn, 1) := by decide +kernel
theorem dX7_lotOf_65 : decode cX7_lotOf 65 = .ok (.new 38, 3) := by decide +kernel
theorem dX7_lotOf_68 : decode cX7_lotOf 68 = .ok (.dup, 1) := by decide +kernel
theorem dX7_lotOf_69 : decode cX7_lotOf 69 = .ok (.ldc 142, 2) := by decide +kernel
theorem dX7_lotOf_71 : decode cX7_lotOf 71 = .ok (.invokespecial 42, 3) := by decide +kernel
theorem dX7_lotOf_74 : decode cX7_lotOf 74 = .ok (.athrow, 1) := by decide +kernel
theorem dX7_wall_0 : decode cX7_wall 0 = .ok (.aload_n 0, 1) := by decide +kernel
theorem dX7_wall_1 : decode cX7_wall 1 = .ok (.iload_n 1, 1) := by decide +kernel
theorem dX7_wall_2 : decode cX7_wall 2 = .ok (.invokevirtual 144, 3) := by decide +kernel
theorem dX7_wall_5 : decode cX7_wall 5 = .ok (.astore 4, 2) := by decide +kernel
theorem dX7_wall_7 : decode cX7_wall 7 = .ok (.iload_n 2, 1) := by decide +kernel
theorem dX7_wall_8 : decode cX7_wall 8 = .ok (.iconst 1, 1) := by decide +kernel
theorem dX7_wall_9 : decode cX7_wall 9 = .ok (.bipush 12, 2) := by decide +kernel
theorem dX7_wall_11 : decode cX7_wall 11 = .ok (.invokestatic 34, 3) := by decide +kernel
theorem dX7_wall_14 : decode cX7_wall 14 = .ok (.iload_n 3, 1) := by decide +kernel
theorem dX7_wall_15 : decode cX7_wall 15 = .ok (.iconst 1, 1) := by decide +kernel
theorem dX7_wall_16 : decode cX7_wall 16 = .ok (.bipush 60, 2) := by decide +kernel
theorem dX7_wall_18 : decode cX7_wall 18 = .ok (.invokestatic 34, 3) := by decide +kernel
theorem dX7_wall_21 : decode cX7_wall 21 = .ok (.aload 4, 2) := by decide +kernel
theorem dX7_wall_23 : decode cX7_wall 23 = .ok (.invokevirtual 148, 3) := by decide +kernel
theorem dX7_wall_26 : decode cX7_wall 26 = .ok (.ifCond .eq 13, 3) := by decide +kernel
theorem dX7_wall_29 : decode cX7_wall 29 = .ok (.new 49, 3) := by decide +kernel
theorem dX7_wall_32 : decode cX7_wall 32 = .ok (.dup, 1) := by decide +kernel
theorem dX7_wall_33 : decode cX7_wall 33 = .ok (.ldc 152, 2) := by decide +kernel
theorem dX7_wall_35 : decode cX7_wall 35 = .ok (.invokespecial 53, 3) := by decide +kernel
theorem dX7_wall_38 : decode cX7_wall 38 = .ok (.athrow, 1) := by decide +kernel
theorem dX7_wall_39 : decode cX7_wall 39 = .ok (.aload 4, 2) := by decide +kernel
theorem dX7_wall_41 : decode cX7_wall 41 = .ok (.iload_n 2, 1) := by decide +kernel
theorem dX7_wall_42 : decode cX7_wall 42 = .ok (.iload_n 3, 1) := by decide +kernel
theorem dX7_wall_43 : decode cX7_wall 43 = .ok (.invokevirtual 154, 3) := by decide +kernel
theorem dX7_wall_46 : decode cX7_wall 46 = .ok (.istore 5, 2) := by decide +kernel
theorem dX7_wall_48 : decode cX7_wall 48 = .ok (.iload 5, 2) := by decide +kernel
theorem dX7_wall_50 : decode cX7_wall 50 = .ok (.iconst (-1), 1) := by decide +kernel
theorem dX7_wall_51 : decode cX7_wall 51 = .ok (.if_icmp .ne 13, 3) := by decide +kernel
theorem dX7_wall_54 : decode cX7_wall 54 = .ok (.new 49, 3) := by decide +kernel
theorem dX7_wall_57 : decode cX7_wall 57 = .ok (.dup, 1) := by decide +kernel
theorem dX7_wall_58 : decode cX7_wall 58 = .ok (.ldc 157, 2) := by decide +kernel
theorem dX7_wall_60 : decode cX7_wall 60 = .ok (.invokespecial 53, 3) := by decide +kernel
theorem dX7_wall_63 : decode cX7_wall 63 = .ok (.athrow, 1) := by decide +kernel
theorem dX7_wall_64 : decode cX7_wall 64 = .ok (.iload 5, 2) := by decide +kernel
theorem dX7_wall_66 : decode cX7_wall 66 = .ok (.ireturn, 1) := by decide +kernel
theorem dX7_hang_0 : decode cX7_hang 0 = .ok (.aload_n 0, 1) := by decide +kernel
theorem dX7_hang_1 : decode cX7_hang 1 = .ok (.iload_n 1, 1) := by decide +kernel
theorem dX7_hang_2 : decode cX7_hang 2 = .ok (.invokevirtual 144, 3) := by decide +kernel
theorem dX7_hang_5 : decode cX7_hang 5 = .ok (.astore_n 3, 1) := by decide +kernel
theorem dX7_hang_6 : decode cX7_hang 6 = .ok (.aload_n 0, 1) := by decide +kernel
theorem dX7_hang_7 : decode cX7_hang 7 = .ok (.iload_n 2, 1) := by decide +kernel
theorem dX7_hang_8 : decode cX7_hang 8 = .ok (.invokevirtual 122, 3) := by decide +kernel
theorem dX7_hang_11 : decode cX7_hang 11 = .ok (.astore 4, 2) := by decide +kernel
theorem dX7_hang_13 : decode cX7_hang 13 = .ok (.aload_n 3, 1) := by decide +kernel
theorem dX7_hang_14 : decode cX7_hang 14 = .ok (.invokevirtual 148, 3) := by decide +kernel
theorem dX7_hang_17 : decode cX7_hang 17 = .ok (.ifCond .eq 13, 3) := by decide +kernel
theorem dX7_hang_20 : decode cX7_hang 20 = .ok (.new 49, 3) := by decide +kernel
theorem dX7_hang_23 : decode cX7_hang 23 = .ok (.dup, 1) := by decide +kernel
theorem dX7_hang_24 : decode cX7_hang 24 = .ok (.ldc 152, 2) := by decide +kernel
theorem dX7_hang_26 : decode cX7_hang 26 = .ok (.invokespecial 53, 3) := by decide +kernel
theorem dX7_hang_29 : decode cX7_hang 29 = .ok (.athrow, 1) := by decide +kernel
theorem dX7_hang_30 : decode cX7_hang 30 = .ok (.aload_n 3, 1) := by decide +kernel
theorem dX7_hang_31 : decode cX7_hang 31 = .ok (.getfield 159, 3) := by decide +kernel
theorem dX7_hang_34 : decode cX7_hang 34 = .ok (.ifCond .ne 13, 3) := by decide +kernel
theorem dX7_hang_37 : decode cX7_hang 37 = .ok (.new 49, 3) := by decide +kernel
theorem dX7_hang_40 : decode cX7_hang 40 = .ok (.dup, 1) := by decide +kernel
theorem dX7_hang_41 : decode cX7_hang 41 = .ok (.ldc 162, 2) := by decide +kernel
theorem dX7_hang_43 : decode cX7_hang 43 = .ok (.invokespecial 53, 3) := by decide +kernel
theorem dX7_hang_46 : decode cX7_hang 46 = .ok (.athrow, 1) := by decide +kernel
theorem dX7_hang_47 : decode cX7_hang 47 = .ok (.aload_n 3, 1) := by decide +kernel
theorem dX7_hang_48 : decode cX7_hang 48 = .ok (.aload 4, 2) := by decide +kernel
theorem dX7_hang_50 : decode cX7_hang 50 = .ok (.invokevirtual 164, 3) := by decide +kernel
theorem dX7_hang_53 : decode cX7_hang 53 = .ok (.istore 5, 2) := by decide +kernel
theorem dX7_hang_55 : decode cX7_hang 55 = .ok (.iload 5, 2) := by decide +kernel
theorem dX7_hang_57 : decode cX7_hang 57 = .ok (.iconst (-1), 1) := by decide +kernel
theorem dX7_hang_58 : decode cX7_hang 58 = .ok (.if_icmp .ne 13, 3) := by decide +kernel
theorem dX7_hang_61 : decode cX7_hang 61 = .ok (.new 49, 3) := by decide +kernel
theorem dX7_hang_64 : decode cX7_hang 64 = .ok (.dup, 1) := by decide +kernel
theorem dX7_hang_65 : decode cX7_hang 65 = .ok (.ldc 168, 2) := by decide +kernel
theorem dX7_hang_67 : decode cX7_hang 67 = .ok (.invokespecial 53, 3) := by decide +kernel
theorem dX7_hang_70 : decode cX7_hang 70 = .ok (.athrow, 1) := by decide +kernel
theorem dX7_hang_71 : decode cX7_hang 71 = .ok (.aload_n 3, 1) := by decide +kernel
theorem dX7_hang_72 : decode cX7_hang 72 = .ok (.aload 4, 2) := by decide +kernel
theorem dX7_hang_74 : decode cX7_hang 74 = .ok (.iload_n 2, 1) := by decide +kernel
theorem dX7_hang_75 : decode cX7_hang 75 = .ok (.iload 5, 2) := by decide +kernel
theorem dX7_hang_77 : decode cX7_hang 77 = .ok (.invokevirtual 170, 3) := by decide +kernel
theorem dX7_hang_80 : decode cX7_hang 80 = .ok (.ireturn, 1) := by decide +kernel
theorem dX7_lengthen_0 : decode cX7_lengthen 0 = .ok (.aload_n 0, 1) := by decide +kernel
theorem dX7_lengthen_1 : decode cX7_lengthen 1 = .ok (.iload_n 1, 1) := by decide +kernel
theorem dX7_lengthen_2 : decode cX7_lengthen 2 = .ok (.invokevirtual 144, 3) := by decide +kernel
theorem dX7_lengthen_5 : decode cX7_lengthen 5 = .ok (.astore 4, 2) := by decide +kernel
theorem dX7_lengthen_7 : decode cX7_lengthen 7 = .ok (.aload 4, 2) := by decide +kernel
theorem dX7_lengthen_9 : decode cX7_lengthen 9 = .ok (.iload_n 2, 1) := by decide +kernel
theorem dX7_lengthen_10 : decode cX7_lengthen 10 = .ok (.invokestatic 174, 3) := by decide +kernel
theorem dX7_lengthen_13 : decode cX7_lengthen 13 = .ok (.astore 5, 2) := by decide +kernel
theorem dX7_lengthen_15 : decode cX7_lengthen 15 = .ok (.iload_n 3, 1) := by decide +kernel
theorem dX7_lengthen_16 : decode cX7_lengthen 16 = .ok (.iconst 1, 1) := by decide +kernel
theorem dX7_lengthen_17 : decode cX7_lengthen 17 = .ok (.bipush 12, 2) := by decide +kernel
theorem dX7_lengthen_19 : decode cX7_lengthen 19 = .ok (.invokestatic 34, 3) := by decide +kernel
theorem dX7_lengthen_22 : decode cX7_lengthen 22 = .ok (.aload 4, 2) := by decide +kernel
theorem dX7_lengthen_24 : decode cX7_lengthen 24 = .ok (.getfield 178, 3) := by decide +kernel
theorem dX7_lengthen_27 : decode cX7_lengthen 27 = .ok (.astore 6, 2) := by decide +kernel
theorem dX7_lengthen_29 : decode cX7_lengthen 29 = .ok (.aload 6, 2) := by decide +kernel
theorem dX7_lengthen_31 : decode cX7_lengthen 31 = .ok (.ifnonnull 13, 3) := by decide +kernel
theorem dX7_lengthen_34 : decode cX7_lengthen 34 = .ok (.new 49, 3) := by decide +kernel
theorem dX7_lengthen_37 : decode cX7_lengthen 37 = .ok (.dup, 1) := by decide +kernel
theorem dX7_lengthen_38 : decode cX7_lengthen 38 = .ok (.ldc 182, 2) := by decide +kernel
theorem dX7_lengthen_40 : decode cX7_lengthen 40 = .ok (.invokespecial 53, 3) := by decide +kernel
theorem dX7_lengthen_43 : decode cX7_lengthen 43 = .ok (.athrow, 1) := by decide +kernel
theorem dX7_lengthen_44 : decode cX7_lengthen 44 = .ok (.aload 5, 2) := by decide +kernel
theorem dX7_lengthen_46 : decode cX7_lengthen 46 = .ok (.getfield 184, 3) := by decide +kernel
theorem dX7_lengthen_49 : decode cX7_lengthen 49 = .ok (.iload_n 3, 1) := by decide +kernel
theorem dX7_lengthen_50 : decode cX7_lengthen 50 = .ok (.iadd, 1) := by decide +kernel
theorem dX7_lengthen_51 : decode cX7_lengthen 51 = .ok (.bipush 24, 2) := by decide +kernel
theorem dX7_lengthen_53 : decode cX7_lengthen 53 = .ok (.if_icmp .le 13, 3) := by decide +kernel
theorem dX7_lengthen_56 : decode cX7_lengthen 56 = .ok (.new 49, 3) := by decide +kernel
theorem dX7_lengthen_59 : decode cX7_lengthen 59 = .ok (.dup, 1) := by decide +kernel
theorem dX7_lengthen_60 : decode cX7_lengthen 60 = .ok (.ldc 189, 2) := by decide +kernel
theorem dX7_lengthen_62 : decode cX7_lengthen 62 = .ok (.invokespecial 53, 3) := by decide +kernel
theorem dX7_lengthen_65 : decode cX7_lengthen 65 = .ok (.athrow, 1) := by decide +kernel
theorem dX7_lengthen_66 : decode cX7_lengthen 66 = .ok (.aload 4, 2) := by decide +kernel
theorem dX7_lengthen_68 : decode cX7_lengthen 68 = .ok (.getfield 191, 3) := by decide +kernel
theorem dX7_lengthen_71 : decode cX7_lengthen 71 = .ok (.getfield 195, 3) := by decide +kernel
theorem dX7_lengthen_74 : decode cX7_lengthen 74 = .ok (.istore 7, 2) := by decide +kernel
theorem dX7_lengthen_76 : decode cX7_lengthen 76 = .ok (.aload 4, 2) := by decide +kernel
theorem dX7_lengthen_78 : decode cX7_lengthen 78 = .ok (.aload 6, 2) := by decide +kernel
theorem dX7_lengthen_80 : decode cX7_lengthen 80 = .ok (.aload 5, 2) := by decide +kernel
theorem dX7_lengthen_82 : decode cX7_lengthen 82 = .ok (.iload_n 3, 1) := by decide +kernel
theorem dX7_lengthen_83 : decode cX7_lengthen 83 = .ok (.invokevirtual 200, 3) := by decide +kernel
theorem dX7_lengthen_86 : decode cX7_lengthen 86 = .ok (.ifCond .eq 15, 3) := by decide +kernel
theorem dX7_lengthen_89 : decode cX7_lengthen 89 = .ok (.aload 4, 2) := by decide +kernel
theorem dX7_lengthen_91 : decode cX7_lengthen 91 = .ok (.getfield 191, 3) := by decide +kernel
theorem dX7_lengthen_94 : decode cX7_lengthen 94 = .ok (.getfield 195, 3) := by decide +kernel
theorem dX7_lengthen_97 : decode cX7_lengthen 97 = .ok (.iload 7, 2) := by decide +kernel
theorem dX7_lengthen_99 : decode cX7_lengthen 99 = .ok (.isub, 1) := by decide +kernel
theorem dX7_lengthen_100 : decode cX7_lengthen 100 = .ok (.ireturn, 1) := by decide +kernel
theorem dX7_lengthen_101 : decode cX7_lengthen 101 = .ok (.aload_n 0, 1) := by decide +kernel
theorem dX7_lengthen_102 : decode cX7_lengthen 102 = .ok (.aload 6, 2) := by decide +kernel
theorem dX7_lengthen_104 : decode cX7_lengthen 104 = .ok (.iload 7, 2) := by decide +kernel
theorem dX7_lengthen_106 : decode cX7_lengthen 106 = .ok (.invokevirtual 204, 3) := by decide +kernel
theorem dX7_lengthen_109 : decode cX7_lengthen 109 = .ok (.aload 4, 2) := by decide +kernel
theorem dX7_lengthen_111 : decode cX7_lengthen 111 = .ok (.invokevirtual 208, 3) := by decide +kernel
theorem dX7_lengthen_114 : decode cX7_lengthen 114 = .ok (.iconst (-1), 1) := by decide +kernel
theorem dX7_lengthen_115 : decode cX7_lengthen 115 = .ok (.ireturn, 1) := by decide +kernel
theorem dX7_strip_0 : decode cX7_strip 0 = .ok (.aload_n 0, 1) := by decide +kernel
theorem dX7_strip_1 : decode cX7_strip 1 = .ok (.iload_n 1, 1) := by decide +kernel
theorem dX7_strip_2 : decode cX7_strip 2 = .ok (.invokevirtual 144, 3) := by decide +kernel
theorem dX7_strip_5 : decode cX7_strip 5 = .ok (.astore_n 2, 1) := by decide +kernel
theorem dX7_strip_6 : decode cX7_strip 6 = .ok (.aload_n 2, 1) := by decide +kernel
theorem dX7_strip_7 : decode cX7_strip 7 = .ok (.getfield 178, 3) := by decide +kernel
theorem dX7_strip_10 : decode cX7_strip 10 = .ok (.astore_n 3, 1) := by decide +kernel
theorem dX7_strip_11 : decode cX7_strip 11 = .ok (.aload_n 3, 1) := by decide +kernel
theorem dX7_strip_12 : decode cX7_strip 12 = .ok (.ifnonnull 13, 3) := by decide +kernel
theorem dX7_strip_15 : decode cX7_strip 15 = .ok (.new 49, 3) := by decide +kernel
theorem dX7_strip_18 : decode cX7_strip 18 = .ok (.dup, 1) := by decide +kernel
theorem dX7_strip_19 : decode cX7_strip 19 = .ok (.ldc 182, 2) := by decide +kernel
theorem dX7_strip_21 : decode cX7_strip 21 = .ok (.invokespecial 53, 3) := by decide +kernel
theorem dX7_strip_24 : decode cX7_strip 24 = .ok (.athrow, 1) := by decide +kernel
theorem dX7_strip_25 : decode cX7_strip 25 = .ok (.aload_n 2, 1) := by decide +kernel
theorem dX7_strip_26 : decode cX7_strip 26 = .ok (.getfield 191, 3) := by decide +kernel
theorem dX7_strip_29 : decode cX7_strip 29 = .ok (.getfield 195, 3) := by decide +kernel
theorem dX7_strip_32 : decode cX7_strip 32 = .ok (.istore 4, 2) := by decide +kernel
theorem dX7_strip_34 : decode cX7_strip 34 = .ok (.aload_n 0, 1) := by decide +kernel
theorem dX7_strip_35 : decode cX7_strip 35 = .ok (.aload_n 3, 1) := by decide +kernel
theorem dX7_strip_36 : decode cX7_strip 36 = .ok (.iload 4, 2) := by decide +kernel
theorem dX7_strip_38 : decode cX7_strip 38 = .ok (.invokevirtual 204, 3) := by decide +kernel
theorem dX7_strip_41 : decode cX7_strip 41 = .ok (.aload_n 2, 1) := by decide +kernel
theorem dX7_strip_42 : decode cX7_strip 42 = .ok (.invokevirtual 208, 3) := by decide +kernel
theorem dX7_strip_45 : decode cX7_strip 45 = .ok (.iload 4, 2) := by decide +kernel
theorem dX7_strip_47 : decode cX7_strip 47 = .ok (.ireturn, 1) := by decide +kernel
theorem dX7_room_0 : decode cX7_room 0 = .ok (.aload_n 0, 1) := by decide +kernel
theorem dX7_room_1 : decode cX7_room 1 = .ok (.iload_n 1, 1) := by decide +kernel
theorem dX7_room_2 : decode cX7_room 2 = .ok (.invokevirtual 144, 3) := by decide +kernel
theorem dX7_room_5 : decode cX7_room 5 = .ok (.astore_n 3, 1) := by decide +kernel
theorem dX7_room_6 : decode cX7_room 6 = .ok (.iload_n 2, 1) := by decide +kernel
theorem dX7_room_7 : decode cX7_room 7 = .ok (.tableswitch 106 0 5 #[37, 42, 47, 63, 82, 101], 37) := by decide +kernel
theorem dX7_room_44 : decode cX7_room 44 = .ok (.aload_n 3, 1) := by decide +kernel
theorem dX7_room_45 : decode cX7_room 45 = .ok (.getfield 159, 3) := by decide +kernel
theorem dX7_room_48 : decode cX7_room 48 = .ok (.ireturn, 1) := by decide +kernel
theorem dX7_room_49 : decode cX7_room 49 = .ok (.aload_n 3, 1) := by decide +kernel
theorem dX7_room_50 : decode cX7_room 50 = .ok (.invokevirtual 211, 3) := by decide +kernel
theorem dX7_room_53 : decode cX7_room 53 = .ok (.ireturn, 1) := by decide +kernel
theorem dX7_room_54 : decode cX7_room 54 = .ok (.aload_n 3, 1) := by decide +kernel
theorem dX7_room_55 : decode cX7_room 55 = .ok (.invokevirtual 148, 3) := by decide +kernel
theorem dX7_room_58 : decode cX7_room 58 = .ok (.ifCond .eq 10, 3) := by decide +kernel
theorem dX7_room_61 : decode cX7_room 61 = .ok (.aload_n 3, 1) := by decide +kernel
theorem dX7_room_62 : decode cX7_room 62 = .ok (.getfield 214, 3) := by decide +kernel
theorem dX7_room_65 : decode cX7_room 65 = .ok (.goto 4, 3) := by decide +kernel
theorem dX7_room_68 : decode cX7_room 68 = .ok (.iconst (-1), 1) := by decide +kernel
theorem dX7_room_69 : decode cX7_room 69 = .ok (.ireturn, 1) := by decide +kernel
theorem dX7_room_70 : decode cX7_room 70 = .ok (.aload_n 3, 1) := by decide +kernel
theorem dX7_room_71 : decode cX7_room 71 = .ok (.invokevirtual 148, 3) := by decide +kernel
theorem dX7_room_74 : decode cX7_room 74 = .ok (.ifCond .eq 13, 3) := by decide +kernel
theorem dX7_room_77 : decode cX7_room 77 = .ok (.aload_n 3, 1) := by decide +kernel
theorem dX7_room_78 : decode cX7_room 78 = .ok (.getfield 191, 3) := by decide +kernel
theorem dX7_room_81 : decode cX7_room 81 = .ok (.getfield 217, 3) := by decide +kernel
theorem dX7_room_84 : decode cX7_room 84 = .ok (.goto 4, 3) := by decide +kernel
theorem dX7_room_87 : decode cX7_room 87 = .ok (.iconst (-1), 1) := by decide +kernel
theorem dX7_room_88 : decode cX7_room 88 = .ok (.ireturn, 1) := by decide +kernel
theorem dX7_room_89 : decode cX7_room 89 = .ok (.aload_n 3, 1) := by decide +kernel
theorem dX7_room_90 : decode cX7_room 90 = .ok (.invokevirtual 148, 3) := by decide +kernel
theorem dX7_room_93 : decode cX7_room 93 = .ok (.ifCond .eq 13, 3) := by decide +kernel
theorem dX7_room_96 : decode cX7_room 96 = .ok (.aload_n 3, 1) := by decide +kernel
theorem dX7_room_97 : decode cX7_room 97 = .ok (.getfield 191, 3) := by decide +kernel
theorem dX7_room_100 : decode cX7_room 100 = .ok (.getfield 195, 3) := by decide +kernel
theorem dX7_room_103 : decode cX7_room 103 = .ok (.goto 4, 3) := by decide +kernel
theorem dX7_room_106 : decode cX7_room 106 = .ok (.iconst (-1), 1) := by decide +kernel
theorem dX7_room_107 : decode cX7_room 107 = .ok (.ireturn, 1) := by decide +kernel
theorem dX7_room_108 : decode cX7_room 108 = .ok (.aload_n 3, 1) := by decide +kernel
theorem dX7_room_109 : decode cX7_room 109 = .ok (.invokevirtual 220, 3) := by decide +kernel
theorem dX7_room_112 : decode cX7_room 112 = .ok (.ireturn, 1) := by decide +kernel
theorem dX7_room_113 : decode cX7_room 113 = .ok (.new 38, 3) := by decide +kernel
theorem dX7_room_116 : decode cX7_room 116 = .ok (.dup, 1) := by decide +kernel
theorem dX7_room_117 : decode cX7_room 117 = .ok (.ldc 223, 2) := by decide +kernel
theorem dX7_room_119 : decode cX7_room 119 = .ok (.invokespecial 42, 3) := by decide +kernel
theorem dX7_room_122 : decode cX7_room 122 = .ok (.athrow, 1) := by decide +kernel
theorem dX7_cut_0 : decode cX7_cut 0 = .ok (.aload_n 0, 1) := by decide +kernel
theorem dX7_cut_1 : decode cX7_cut 1 = .ok (.iload_n 1, 1) := by decide +kernel
theorem dX7_cut_2 : decode cX7_cut 2 = .ok (.invokevirtual 144, 3) := by decide +kernel
theorem dX7_cut_5 : decode cX7_cut 5 = .ok (.astore 4, 2) := by decide +kernel
theorem dX7_cut_7 : decode cX7_cut 7 = .ok (.aload 4, 2) := by decide +kernel
theorem dX7_cut_9 : decode cX7_cut 9 = .ok (.iload_n 2, 1) := by decide +kernel
theorem dX7_cut_10 : decode cX7_cut 10 = .ok (.invokestatic 174, 3) := by decide +kernel
theorem dX7_cut_13 : decode cX7_cut 13 = .ok (.astore 5, 2) := by decide +kernel
theorem dX7_cut_15 : decode cX7_cut 15 = .ok (.iload_n 3, 1) := by decide +kernel
theorem dX7_cut_16 : decode cX7_cut 16 = .ok (.ifCond .lt 22, 3) := by decide +kernel
theorem dX7_cut_19 : decode cX7_cut 19 = .ok (.iload_n 3, 1) := by decide +kernel
theorem dX7_cut_20 : decode cX7_cut 20 = .ok (.aload 5, 2) := by decide +kernel
theorem dX7_cut_22 : decode cX7_cut 22 = .ok (.getfield 184, 3) := by decide +kernel
theorem dX7_cut_25 : decode cX7_cut 25 = .ok (.if_icmp .ge 13, 3) := by decide +kernel
theorem dX7_cut_28 : decode cX7_cut 28 = .ok (.iload_n 3, 1) := by decide +kernel
theorem dX7_cut_29 : decode cX7_cut 29 = .ok (.aload 5, 2) := by decide +kernel
theorem dX7_cut_31 : decode cX7_cut 31 = .ok (.getfield 225, 3) := by decide +kernel
theorem dX7_cut_34 : decode cX7_cut 34 = .ok (.arraylength, 1) := by decide +kernel
theorem dX7_cut_35 : decode cX7_cut 35 = .ok (.if_icmp .lt 13, 3) := by decide +kernel
theorem dX7_cut_38 : decode cX7_cut 38 = .ok (.new 70, 3) := by decide +kernel
theorem dX7_cut_41 : decode cX7_cut 41 = .ok (.dup, 1) := by decide +kernel
theorem dX7_cut_42 : decode cX7_cut 42 = .ok (.ldc 229, 2) := by decide +kernel
theorem dX7_cut_44 : decode cX7_cut 44 = .ok (.invokespecial 74, 3) := by decide +kernel
theorem dX7_cut_47 : decode cX7_cut 47 = .ok (.athrow, 1) := by decide +kernel
theorem dX7_cut_48 : decode cX7_cut 48 = .ok (.aload 4, 2) := by decide +kernel
theorem dX7_cut_50 : decode cX7_cut 50 = .ok (.invokevirtual 148, 3) := by decide +kernel
theorem dX7_cut_53 : decode cX7_cut 53 = .ok (.ifCond .eq 13, 3) := by decide +kernel
theorem dX7_cut_56 : decode cX7_cut 56 = .ok (.aload 5, 2) := by decide +kernel
theorem dX7_cut_58 : decode cX7_cut 58 = .ok (.getfield 225, 3) := by decide +kernel
theorem dX7_cut_61 : decode cX7_cut 61 = .ok (.iload_n 3, 1) := by decide +kernel
theorem dX7_cut_62 : decode cX7_cut 62 = .ok (.iaload, 1) := by decide +kernel
theorem dX7_cut_63 : decode cX7_cut 63 = .ok (.goto 4, 3) := by decide +kernel
theorem dX7_cut_66 : decode cX7_cut 66 = .ok (.iconst (-1), 1) := by decide +kernel
theorem dX7_cut_67 : decode cX7_cut 67 = .ok (.ireturn, 1) := by decide +kernel
theorem dX7_seen_0 : decode cX7_seen 0 = .ok (.aload_n 0, 1) := by decide +kernel
theorem dX7_seen_1 : decode cX7_seen 1 = .ok (.iload_n 1, 1) := by decide +kernel
theorem dX7_seen_2 : decode cX7_seen 2 = .ok (.invokevirtual 144, 3) := by decide +kernel
theorem dX7_seen_5 : decode cX7_seen 5 = .ok (.astore 5, 2) := by decide +kernel
theorem dX7_seen_7 : decode cX7_seen 7 = .ok (.aload 5, 2) := by decide +kernel
theorem dX7_seen_9 : decode cX7_seen 9 = .ok (.iload_n 2, 1) := by decide +kernel
theorem dX7_seen_10 : decode cX7_seen 10 = .ok (.invokestatic 174, 3) := by decide +kernel
theorem dX7_seen_13 : decode cX7_seen 13 = .ok (.astore 6, 2) := by decide +kernel
theorem dX7_seen_15 : decode cX7_seen 15 = .ok (.aload 5, 2) := by decide +kernel
theorem dX7_seen_17 : decode cX7_seen 17 = .ok (.getfield 178, 3) := by decide +kernel
theorem dX7_seen_20 : decode cX7_seen 20 = .ok (.astore 7, 2) := by decide +kernel
theorem dX7_seen_22 : decode cX7_seen 22 = .ok (.aload 7, 2) := by decide +kernel
theorem dX7_seen_24 : decode cX7_seen 24 = .ok (.ifnonnull 5, 3) := by decide +kernel
theorem dX7_seen_27 : decode cX7_seen 27 = .ok (.iconst (-1), 1) := by decide +kernel
theorem dX7_seen_28 : decode cX7_seen 28 = .ok (.ireturn, 1) := by decide +kernel
theorem dX7_seen_29 : decode cX7_seen 29 = .ok (.aload 7, 2) := by decide +kernel
theorem dX7_seen_31 : decode cX7_seen 31 = .ok (.getfield 231, 3) := by decide +kernel
theorem dX7_seen_34 : decode cX7_seen 34 = .ok (.getfield 235, 3) := by decide +kernel
theorem dX7_seen_37 : decode cX7_seen 37 = .ok (.astore 8, 2) := by decide +kernel
theorem dX7_seen_39 : decode cX7_seen 39 = .ok (.iload_n 3, 1) := by decide +kernel
theorem dX7_seen_40 : decode cX7_seen 40 = .ok (.ifCond .lt 33, 3) := by decide +kernel
theorem dX7_seen_43 : decode cX7_seen 43 = .ok (.iload_n 3, 1) := by decide +kernel
theorem dX7_seen_44 : decode cX7_seen 44 = .ok (.aload 6, 2) := by decide +kernel
theorem dX7_seen_46 : decode cX7_seen 46 = .ok (.getfield 184, 3) := by decide +kernel
theorem dX7_seen_49 : decode cX7_seen 49 = .ok (.aload 8, 2) := by decide +kernel
theorem dX7_seen_51 : decode cX7_seen 51 = .ok (.getfield 238, 3) := by decide +kernel
theorem dX7_seen_54 : decode cX7_seen 54 = .ok (.imul, 1) := by decide +kernel
theorem dX7_seen_55 : decode cX7_seen 55 = .ok (.if_icmp .ge 18, 3) := by decide +kernel
theorem dX7_seen_58 : decode cX7_seen 58 = .ok (.iload 4, 2) := by decide +kernel
theorem dX7_seen_60 : decode cX7_seen 60 = .ok (.ifCond .lt 13, 3) := by decide +kernel
theorem dX7_seen_63 : decode cX7_seen 63 = .ok (.iload 4, 2) := by decide +kernel
theorem dX7_seen_65 : decode cX7_seen 65 = .ok (.aload 6, 2) := by decide +kernel
theorem dX7_seen_67 : decode cX7_seen 67 = .ok (.getfield 241, 3) := by decide +kernel
theorem dX7_seen_70 : decode cX7_seen 70 = .ok (.if_icmp .lt 13, 3) := by decide +kernel
theorem dX7_seen_73 : decode cX7_seen 73 = .ok (.new 70, 3) := by decide +kernel
theorem dX7_seen_76 : decode cX7_seen 76 = .ok (.dup, 1) := by decide +kernel
theorem dX7_seen_77 : decode cX7_seen 77 = .ok (.ldc 244, 2) := by decide +kernel
theorem dX7_seen_79 : decode cX7_seen 79 = .ok (.invokespecial 74, 3) := by decide +kernel
theorem dX7_seen_82 : decode cX7_seen 82 = .ok (.athrow, 1) := by decide +kernel
theorem dX7_seen_83 : decode cX7_seen 83 = .ok (.aload 8, 2) := by decide +kernel
theorem dX7_seen_85 : decode cX7_seen 85 = .ok (.iload_n 3, 1) := by decide +kernel
theorem dX7_seen_86 : decode cX7_seen 86 = .ok (.aload 5, 2) := by decide +kernel
theorem dX7_seen_88 : decode cX7_seen 88 = .ok (.getfield 191, 3) := by decide +kernel
theorem dX7_seen_91 : decode cX7_seen 91 = .ok (.getfield 217, 3) := by decide +kernel
theorem dX7_seen_94 : decode cX7_seen 94 = .ok (.iload 4, 2) := by decide +kernel
theorem dX7_seen_96 : decode cX7_seen 96 = .ok (.iadd, 1) := by decide +kernel
theorem dX7_seen_97 : decode cX7_seen 97 = .ok (.invokevirtual 75, 3) := by decide +kernel
theorem dX7_seen_100 : decode cX7_seen 100 = .ok (.ireturn, 1) := by decide +kernel
theorem dX7_lost_0 : decode cX7_lost 0 = .ok (.aload_n 0, 1) := by decide +kernel
theorem dX7_lost_1 : decode cX7_lost 1 = .ok (.getfield 246, 3) := by decide +kernel
theorem dX7_lost_4 : decode cX7_lost 4 = .ok (.ireturn, 1) := by decide +kernel
theorem dX7_patternAt_0 : decode cX7_patternAt 0 = .ok (.iload_n 1, 1) := by decide +kernel
theorem dX7_patternAt_1 : decode cX7_patternAt 1 = .ok (.ifCond .lt 12, 3) := by decide +kernel
theorem dX7_patternAt_4 : decode cX7_patternAt 4 = .ok (.iload_n 1, 1) := by decide +kernel
theorem dX7_patternAt_5 : decode cX7_patternAt 5 = .ok (.aload_n 0, 1) := by decide +kernel
theorem dX7_patternAt_6 : decode cX7_patternAt 6 = .ok (.getfield 11, 3) := by decide +kernel
theorem dX7_patternAt_9 : decode cX7_patternAt 9 = .ok (.arraylength, 1) := by decide +kernel
theorem dX7_patternAt_10 : decode cX7_patternAt 10 = .ok (.if_icmp .lt 7, 3) := by decide +kernel
theorem dX7_patternAt_13 : decode cX7_patternAt 13 = .ok (.aconst_null, 1) := by decide +kernel
theorem dX7_patternAt_14 : decode cX7_patternAt 14 = .ok (.goto 9, 3) := by decide +kernel
theorem dX7_patternAt_17 : decode cX7_patternAt 17 = .ok (.aload_n 0, 1) := by decide +kernel
theorem dX7_patternAt_18 : decode cX7_patternAt 18 = .ok (.getfield 11, 3) := by decide +kernel
theorem dX7_patternAt_21 : decode cX7_patternAt 21 = .ok (.iload_n 1, 1) := by decide +kernel
theorem dX7_patternAt_22 : decode cX7_patternAt 22 = .ok (.aaload, 1) := by decide +kernel
theorem dX7_patternAt_23 : decode cX7_patternAt 23 = .ok (.astore_n 2, 1) := by decide +kernel
theorem dX7_patternAt_24 : decode cX7_patternAt 24 = .ok (.aload_n 2, 1) := by decide +kernel
theorem dX7_patternAt_25 : decode cX7_patternAt 25 = .ok (.ifnonnull 13, 3) := by decide +kernel
theorem dX7_patternAt_28 : decode cX7_patternAt 28 = .ok (.new 70, 3) := by decide +kernel
theorem dX7_patternAt_31 : decode cX7_patternAt 31 = .ok (.dup, 1) := by decide +kernel
theorem dX7_patternAt_32 : decode cX7_patternAt 32 = .ok (.ldc 249, 2) := by decide +kernel
theorem dX7_patternAt_34 : decode cX7_patternAt 34 = .ok (.invokespecial 74, 3) := by decide +kernel
theorem dX7_patternAt_37 : decode cX7_patternAt 37 = .ok (.athrow, 1) := by decide +kernel
theorem dX7_patternAt_38 : decode cX7_patternAt 38 = .ok (.aload_n 2, 1) := by decide +kernel
theorem dX7_patternAt_39 : decode cX7_patternAt 39 = .ok (.areturn, 1) := by decide +kernel
theorem dX7_rollerAt_0 : decode cX7_rollerAt 0 = .ok (.iload_n 1, 1) := by decide +kernel
theorem dX7_rollerAt_1 : decode cX7_rollerAt 1 = .ok (.ifCond .lt 12, 3) := by decide +kernel
theorem dX7_rollerAt_4 : decode cX7_rollerAt 4 = .ok (.iload_n 1, 1) := by decide +kernel
theorem dX7_rollerAt_5 : decode cX7_rollerAt 5 = .ok (.aload_n 0, 1) := by decide +kernel
theorem dX7_rollerAt_6 : decode cX7_rollerAt 6 = .ok (.getfield 17, 3) := by decide +kernel
theorem dX7_rollerAt_9 : decode cX7_rollerAt 9 = .ok (.arraylength, 1) := by decide +kernel
theorem dX7_rollerAt_10 : decode cX7_rollerAt 10 = .ok (.if_icmp .lt 7, 3) := by decide +kernel
theorem dX7_rollerAt_13 : decode cX7_rollerAt 13 = .ok (.aconst_null, 1) := by decide +kernel
theorem dX7_rollerAt_14 : decode cX7_rollerAt 14 = .ok (.goto 9, 3) := by decide +kernel
theorem dX7_rollerAt_17 : decode cX7_rollerAt 17 = .ok (.aload_n 0, 1) := by decide +kernel
theorem dX7_rollerAt_18 : decode cX7_rollerAt 18 = .ok (.getfield 17, 3) := by decide +kernel
theorem dX7_rollerAt_21 : decode cX7_rollerAt 21 = .ok (.iload_n 1, 1) := by decide +kernel
theorem dX7_rollerAt_22 : decode cX7_rollerAt 22 = .ok (.aaload, 1) := by decide +kernel
theorem dX7_rollerAt_23 : decode cX7_rollerAt 23 = .ok (.astore_n 2, 1) := by decide +kernel
theorem dX7_rollerAt_24 : decode cX7_rollerAt 24 = .ok (.aload_n 2, 1) := by decide +kernel
theorem dX7_rollerAt_25 : decode cX7_rollerAt 25 = .ok (.ifnonnull 13, 3) := by decide +kernel
theorem dX7_rollerAt_28 : decode cX7_rollerAt 28 = .ok (.new 70, 3) := by decide +kernel
theorem dX7_rollerAt_31 : decode cX7_rollerAt 31 = .ok (.dup, 1) := by decide +kernel
theorem dX7_rollerAt_32 : decode cX7_rollerAt 32 = .ok (.ldc 251, 2) := by decide +kernel
theorem dX7_rollerAt_34 : decode cX7_rollerAt 34 = .ok (.invokespecial 74, 3) := by decide +kernel
theorem dX7_rollerAt_37 : decode cX7_rollerAt 37 = .ok (.athrow, 1) := by decide +kernel
theorem dX7_rollerAt_38 : decode cX7_rollerAt 38 = .ok (.aload_n 2, 1) := by decide +kernel
theorem dX7_rollerAt_39 : decode cX7_rollerAt 39 = .ok (.areturn, 1) := by decide +kernel
theorem dX7_lotAt_0 : decode cX7_lotAt 0 = .ok (.iload_n 1, 1) := by decide +kernel
theorem dX7_lotAt_1 : decode cX7_lotAt 1 = .ok (.ifCond .lt 12, 3) := by decide +kernel
theorem dX7_lotAt_4 : decode cX7_lotAt 4 = .ok (.iload_n 1, 1) := by decide +kernel
theorem dX7_lotAt_5 : decode cX7_lotAt 5 = .ok (.aload_n 0, 1) := by decide +kernel
theorem dX7_lotAt_6 : decode cX7_lotAt 6 = .ok (.getfield 23, 3) := by decide +kernel
theorem dX7_lotAt_9 : decode cX7_lotAt 9 = .ok (.arraylength, 1) := by decide +kernel
theorem dX7_lotAt_10 : decode cX7_lotAt 10 = .ok (.if_icmp .lt 7, 3) := by decide +kernel
theorem dX7_lotAt_13 : decode cX7_lotAt 13 = .ok (.aconst_null, 1) := by decide +kernel
theorem dX7_lotAt_14 : decode cX7_lotAt 14 = .ok (.goto 9, 3) := by decide +kernel
theorem dX7_lotAt_17 : decode cX7_lotAt 17 = .ok (.aload_n 0, 1) := by decide +kernel
theorem dX7_lotAt_18 : decode cX7_lotAt 18 = .ok (.getfield 23, 3) := by decide +kernel
theorem dX7_lotAt_21 : decode cX7_lotAt 21 = .ok (.iload_n 1, 1) := by decide +kernel
theorem dX7_lotAt_22 : decode cX7_lotAt 22 = .ok (.aaload, 1) := by decide +kernel
theorem dX7_lotAt_23 : decode cX7_lotAt 23 = .ok (.astore_n 2, 1) := by decide +kernel
theorem dX7_lotAt_24 : decode cX7_lotAt 24 = .ok (.aload_n 2, 1) := by decide +kernel
theorem dX7_lotAt_25 : decode cX7_lotAt 25 = .ok (.ifnonnull 13, 3) := by decide +kernel
theorem dX7_lotAt_28 : decode cX7_lotAt 28 = .ok (.new 70, 3) := by decide +kernel
theorem dX7_lotAt_31 : decode cX7_lotAt 31 = .ok (.dup, 1) := by decide +kernel
theorem dX7_lotAt_32 : decode cX7_lotAt 32 = .ok (.ldc 253, 2) := by decide +kernel
theorem dX7_lotAt_34 : decode cX7_lotAt 34 = .ok (.invokespecial 74, 3) := by decide +kernel
theorem dX7_lotAt_37 : decode cX7_lotAt 37 = .ok (.athrow, 1) := by decide +kernel
theorem dX7_lotAt_38 : decode cX7_lotAt 38 = .ok (.aload_n 2, 1) := by decide +kernel
theorem dX7_lotAt_39 : decode cX7_lotAt 39 = .ok (.areturn, 1) := by decide +kernel
theorem dX7_roomAt_0 : decode cX7_roomAt 0 = .ok (.iload_n 1, 1) := by decide +kernel
theorem dX7_roomAt_1 : decode cX7_roomAt 1 = .ok (.ifCond .lt 12, 3) := by decide +kernel
theorem dX7_roomAt_4 : decode cX7_roomAt 4 = .ok (.iload_n 1, 1) := by decide +kernel
theorem dX7_roomAt_5 : decode cX7_roomAt 5 = .ok (.aload_n 0, 1) := by decide +kernel
theorem dX7_roomAt_6 : decode cX7_roomAt 6 = .ok (.getfield 29, 3) := by decide +kernel
theorem dX7_roomAt_9 : decode cX7_roomAt 9 = .ok (.arraylength, 1) := by decide +kernel
theorem dX7_roomAt_10 : decode cX7_roomAt 10 = .ok (.if_icmp .lt 7, 3) := by decide +kernel
theorem dX7_roomAt_13 : decode cX7_roomAt 13 = .ok (.aconst_null, 1) := by decide +kernel
theorem dX7_roomAt_14 : decode cX7_roomAt 14 = .ok (.goto 9, 3) := by decide +kernel
theorem dX7_roomAt_17 : decode cX7_roomAt 17 = .ok (.aload_n 0, 1) := by decide +kernel
theorem dX7_roomAt_18 : decode cX7_roomAt 18 = .ok (.getfield 29, 3) := by decide +kernel
theorem dX7_roomAt_21 : decode cX7_roomAt 21 = .ok (.iload_n 1, 1) := by decide +kernel
theorem dX7_roomAt_22 : decode cX7_roomAt 22 = .ok (.aaload, 1) := by decide +kernel
theorem dX7_roomAt_23 : decode cX7_roomAt 23 = .ok (.astore_n 2, 1) := by decide +kernel
theorem dX7_roomAt_24 : decode cX7_roomAt 24 = .ok (.aload_n 2, 1) := by decide +kernel
theorem dX7_roomAt_25 : decode cX7_roomAt 25 = .ok (.ifnonnull 13, 3) := by decide +kernel
theorem dX7_roomAt_28 : decode cX7_roomAt 28 = .ok (.new 70, 3) := by decide +kernel
theorem dX7_roomAt_31 : decode cX7_roomAt 31 = .ok (.dup, 1) := by decide +kernel
theorem dX7_roomAt_32 : decode cX7_roomAt 32 = .ok (.ldc 255, 2) := by decide +kernel
theorem dX7_roomAt_34 : decode cX7_roomAt 34 = .ok (.invokespecial 74, 3) := by decide +kernel
theorem dX7_roomAt_37 : decode cX7_roomAt 37 = .ok (.athrow, 1) := by decide +kernel
theorem dX7_roomAt_38 : decode cX7_roomAt 38 = .ok (.aload_n 2, 1) := by decide +kernel
theorem dX7_roomAt_39 : decode cX7_roomAt 39 = .ok (.areturn, 1) := by decide +kernel
theorem dX7_wallAt_0 : decode cX7_wallAt 0 = .ok (.iload_n 1, 1) := by decide +kernel
theorem dX7_wallAt_1 : decode cX7_wallAt 1 = .ok (.ifCond .lt 12, 3) := by decide +kernel
theorem dX7_wallAt_4 : decode cX7_wallAt 4 = .ok (.iload_n 1, 1) := by decide +kernel
theorem dX7_wallAt_5 : decode cX7_wallAt 5 = .ok (.aload_n 0, 1) := by decide +kernel
theorem dX7_wallAt_6 : decode cX7_wallAt 6 = .ok (.getfield 257, 3) := by decide +kernel
theorem dX7_wallAt_9 : decode cX7_wallAt 9 = .ok (.arraylength, 1) := by decide +kernel
theorem dX7_wallAt_10 : decode cX7_wallAt 10 = .ok (.if_icmp .lt 7, 3) := by decide +kernel
theorem dX7_wallAt_13 : decode cX7_wallAt 13 = .ok (.aconst_null, 1) := by decide +kernel
theorem dX7_wallAt_14 : decode cX7_wallAt 14 = .ok (.goto 9, 3) := by decide +kernel
theorem dX7_wallAt_17 : decode cX7_wallAt 17 = .ok (.aload_n 0, 1) := by decide +kernel
theorem dX7_wallAt_18 : decode cX7_wallAt 18 = .ok (.getfield 257, 3) := by decide +kernel
theorem dX7_wallAt_21 : decode cX7_wallAt 21 = .ok (.iload_n 1, 1) := by decide +kernel
theorem dX7_wallAt_22 : decode cX7_wallAt 22 = .ok (.aaload, 1) := by decide +kernel
theorem dX7_wallAt_23 : decode cX7_wallAt 23 = .ok (.astore_n 2, 1) := by decide +kernel
theorem dX7_wallAt_24 : decode cX7_wallAt 24 = .ok (.aload_n 2, 1) := by decide +kernel
theorem dX7_wallAt_25 : decode cX7_wallAt 25 = .ok (.ifnonnull 14, 3) := by decide +kernel
theorem dX7_wallAt_28 : decode cX7_wallAt 28 = .ok (.new 70, 3) := by decide +kernel
theorem dX7_wallAt_31 : decode cX7_wallAt 31 = .ok (.dup, 1) := by decide +kernel
theorem dX7_wallAt_32 : decode cX7_wallAt 32 = .ok (.ldc_w 261, 3) := by decide +kernel
theorem dX7_wallAt_35 : decode cX7_wallAt 35 = .ok (.invokespecial 74, 3) := by decide +kernel
theorem dX7_wallAt_38 : decode cX7_wallAt 38 = .ok (.athrow, 1) := by decide +kernel
theorem dX7_wallAt_39 : decode cX7_wallAt 39 = .ok (.aload_n 2, 1) := by decide +kernel
theorem dX7_wallAt_40 : decode cX7_wallAt 40 = .ok (.areturn, 1) := by decide +kernel
theorem dX7_requireWithin_0 : decode cX7_requireWithin 0 = .ok (.iload_n 0, 1) := by decide +kernel
theorem dX7_requireWithin_1 : decode cX7_requireWithin 1 = .ok (.iload_n 1, 1) := by decide +kernel
theorem dX7_requireWithin_2 : decode cX7_requireWithin 2 = .ok (.if_icmp .lt 8, 3) := by decide +kernel
theorem dX7_requireWithin_5 : decode cX7_requireWithin 5 = .ok (.iload_n 0, 1) := by decide +kernel
theorem dX7_requireWithin_6 : decode cX7_requireWithin 6 = .ok (.iload_n 2, 1) := by decide +kernel
theorem dX7_requireWithin_7 : decode cX7_requireWithin 7 = .ok (.if_icmp .le 14, 3) := by decide +kernel
theorem dX7_requireWithin_10 : decode cX7_requireWithin 10 = .ok (.new 38, 3) := by decide +kernel
theorem dX7_requireWithin_13 : decode cX7_requireWithin 13 = .ok (.dup, 1) := by decide +kernel
theorem dX7_requireWithin_14 : decode cX7_requireWithin 14 = .ok (.ldc_w 263, 3) := by decide +kernel
theorem dX7_requireWithin_17 : decode cX7_requireWithin 17 = .ok (.invokespecial 42, 3) := by decide +kernel
theorem dX7_requireWithin_20 : decode cX7_requireWithin 20 = .ok (.athrow, 1) := by decide +kernel
theorem dX7_requireWithin_21 : decode cX7_requireWithin 21 = .ok (.return_, 1) := by decide +kernel
theorem dX7_lose_0 : decode cX7_lose 0 = .ok (.aload_n 0, 1) := by decide +kernel
theorem dX7_lose_1 : decode cX7_lose 1 = .ok (.dup, 1) := by decide +kernel
theorem dX7_lose_2 : decode cX7_lose 2 = .ok (.getfield 246, 3) := by decide +kernel
theorem dX7_lose_5 : decode cX7_lose 5 = .ok (.iload_n 2, 1) := by decide +kernel
theorem dX7_lose_6 : decode cX7_lose 6 = .ok (.aload_n 1, 1) := by decide +kernel
theorem dX7_lose_7 : decode cX7_lose 7 = .ok (.getfield 135, 3) := by decide +kernel
theorem dX7_lose_10 : decode cX7_lose 10 = .ok (.imul, 1) := by decide +kernel
theorem dX7_lose_11 : decode cX7_lose 11 = .ok (.iadd, 1) := by decide +kernel
theorem dX7_lose_12 : decode cX7_lose 12 = .ok (.putfield 246, 3) := by decide +kernel
theorem dX7_lose_15 : decode cX7_lose 15 = .ok (.return_, 1) := by decide +kernel
theorem dX7_wrapped_0 : decode cX7_wrapped 0 = .ok (.iload_n 1, 1) := by decide +kernel
theorem dX7_wrapped_1 : decode cX7_wrapped 1 = .ok (.iconst 1, 1) := by decide +kernel
theorem dX7_wrapped_2 : decode cX7_wrapped 2 = .ok (.if_icmp .ge 7, 3) := by decide +kernel
theorem dX7_wrapped_5 : decode cX7_wrapped 5 = .ok (.iconst 0, 1) := by decide +kernel
theorem dX7_wrapped_6 : decode cX7_wrapped 6 = .ok (.goto 8, 3) := by decide +kernel
theorem dX7_wrapped_9 : decode cX7_wrapped 9 = .ok (.iload_n 0, 1) := by decide +kernel
theorem dX7_wrapped_10 : decode cX7_wrapped 10 = .ok (.iload_n 1, 1) := by decide +kernel
theorem dX7_wrapped_11 : decode cX7_wrapped 11 = .ok (.invokestatic 265, 3) := by decide +kernel
theorem dX7_wrapped_14 : decode cX7_wrapped 14 = .ok (.ireturn, 1) := by decide +kernel
theorem dX8_init_0 : decode cX8_init 0 = .ok (.aload_n 0, 1) := by decide +kernel
theorem dX8_init_1 : decode cX8_init 1 = .ok (.invokespecial 1, 3) := by decide +kernel
theorem dX8_init_4 : decode cX8_init 4 = .ok (.aload_n 0, 1) := by decide +kernel
theorem dX8_init_5 : decode cX8_init 5 = .ok (.bipush 6, 2) := by decide +kernel
theorem dX8_init_7 : decode cX8_init 7 = .ok (.newarray .int, 2) := by decide +kernel
theorem dX8_init_9 : decode cX8_init 9 = .ok (.putfield 7, 3) := by decide +kernel
theorem dX8_init_12 : decode cX8_init 12 = .ok (.aload_n 0, 1) := by decide +kernel
theorem dX8_init_13 : decode cX8_init 13 = .ok (.bipush 6, 2) := by decide +kernel
theorem dX8_init_15 : decode cX8_init 15 = .ok (.newarray .int, 2) := by decide +kernel
theorem dX8_init_17 : decode cX8_init 17 = .ok (.putfield 13, 3) := by decide +kernel
theorem dX8_init_20 : decode cX8_init 20 = .ok (.aload_n 0, 1) := by decide +kernel
theorem dX8_init_21 : decode cX8_init 21 = .ok (.bipush 6, 2) := by decide +kernel
theorem dX8_init_23 : decode cX8_init 23 = .ok (.newarray .int, 2) := by decide +kernel
theorem dX8_init_25 : decode cX8_init 25 = .ok (.putfield 16, 3) := by decide +kernel
theorem dX8_init_28 : decode cX8_init 28 = .ok (.aload_n 0, 1) := by decide +kernel
theorem dX8_init_29 : decode cX8_init 29 = .ok (.sipush 150, 3) := by decide +kernel
theorem dX8_init_32 : decode cX8_init 32 = .ok (.newarray .int, 2) := by decide +kernel
theorem dX8_init_34 : decode cX8_init 34 = .ok (.putfield 19, 3) := by decide +kernel
theorem dX8_init_37 : decode cX8_init 37 = .ok (.aload_n 0, 1) := by decide +kernel
theorem dX8_init_38 : decode cX8_init 38 = .ok (.bipush 8, 2) := by decide +kernel
theorem dX8_init_40 : decode cX8_init 40 = .ok (.newarray .int, 2) := by decide +kernel
theorem dX8_init_42 : decode cX8_init 42 = .ok (.putfield 22, 3) := by decide +kernel
theorem dX8_init_45 : decode cX8_init 45 = .ok (.aload_n 0, 1) := by decide +kernel
theorem dX8_init_46 : decode cX8_init 46 = .ok (.bipush 8, 2) := by decide +kernel
theorem dX8_init_48 : decode cX8_init 48 = .ok (.newarray .int, 2) := by decide +kernel
theorem dX8_init_50 : decode cX8_init 50 = .ok (.putfield 25, 3) := by decide +kernel
theorem dX8_init_53 : decode cX8_init 53 = .ok (.aload_n 0, 1) := by decide +kernel
theorem dX8_init_54 : decode cX8_init 54 = .ok (.sipush 800, 3) := by decide +kernel
theorem dX8_init_57 : decode cX8_init 57 = .ok (.newarray .int, 2) := by decide +kernel
theorem dX8_init_59 : decode cX8_init 59 = .ok (.putfield 28, 3) := by decide +kernel
theorem dX8_init_62 : decode cX8_init 62 = .ok (.aload_n 0, 1) := by decide +kernel
theorem dX8_init_63 : decode cX8_init 63 = .ok (.bipush 10, 2) := by decide +kernel
theorem dX8_init_65 : decode cX8_init 65 = .ok (.newarray .int, 2) := by decide +kernel
theorem dX8_init_67 : decode cX8_init 67 = .ok (.putfield 31, 3) := by decide +kernel
theorem dX8_init_70 : decode cX8_init 70 = .ok (.aload_n 0, 1) := by decide +kernel
theorem dX8_init_71 : decode cX8_init 71 = .ok (.bipush 10, 2) := by decide +kernel
theorem dX8_init_73 : decode cX8_init 73 = .ok (.newarray .int, 2) := by decide +kernel
theorem dX8_init_75 : decode cX8_init 75 = .ok (.putfield 34, 3) := by decide +kernel
theorem dX8_init_78 : decode cX8_init 78 = .ok (.aload_n 0, 1) := by decide +kernel
theorem dX8_init_79 : decode cX8_init 79 = .ok (.bipush 10, 2) := by decide +kernel
theorem dX8_init_81 : decode cX8_init 81 = .ok (.newarray .int, 2) := by decide +kernel
theorem dX8_init_83 : decode cX8_init 83 = .ok (.putfield 37, 3) := by decide +kernel
theorem dX8_init_86 : decode cX8_init 86 = .ok (.aload_n 0, 1) := by decide +kernel
theorem dX8_init_87 : decode cX8_init 87 = .ok (.bipush 10, 2) := by decide +kernel
theorem dX8_init_89 : decode cX8_init 89 = .ok (.newarray .int, 2) := by decide +kernel
theorem dX8_init_91 : decode cX8_init 91 = .ok (.putfield 40, 3) := by decide +kernel
theorem dX8_init_94 : decode cX8_init 94 = .ok (.aload_n 0, 1) := by decide +kernel
theorem dX8_init_95 : decode cX8_init 95 = .ok (.iconst 4, 1) := by decide +kernel
theorem dX8_init_96 : decode cX8_init 96 = .ok (.newarray .int, 2) := by decide +kernel
theorem dX8_init_98 : decode cX8_init 98 = .ok (.putfield 43, 3) := by decide +kernel
theorem dX8_init_101 : decode cX8_init 101 = .ok (.aload_n 0, 1) := by decide +kernel
theorem dX8_init_102 : decode cX8_init 102 = .ok (.bipush 16, 2) := by decide +kernel
theorem dX8_init_104 : decode cX8_init 104 = .ok (.newarray .int, 2) := by decide +kernel
theorem dX8_init_106 : decode cX8_init 106 = .ok (.putfield 46, 3) := by decide +kernel
theorem dX8_init_109 : decode cX8_init 109 = .ok (.aload_n 0, 1) := by decide +kernel
theorem dX8_init_110 : decode cX8_init 110 = .ok (.bipush 16, 2) := by decide +kernel
theorem dX8_init_112 : decode cX8_init 112 = .ok (.newarray .int, 2) := by decide +kernel
theorem dX8_init_114 : decode cX8_init 114 = .ok (.putfield 49, 3) := by decide +kernel
theorem dX8_init_117 : decode cX8_init 117 = .ok (.aload_n 0, 1) := by decide +kernel
theorem dX8_init_118 : decode cX8_init 118 = .ok (.iconst 4, 1) := by decide +kernel
theorem dX8_init_119 : decode cX8_init 119 = .ok (.newarray .int, 2) := by decide +kernel
theorem dX8_init_121 : decode cX8_init 121 = .ok (.putfield 52, 3) := by decide +kernel
theorem dX8_init_124 : decode cX8_init 124 = .ok (.aload_n 0, 1) := by decide +kernel
theorem dX8_init_125 : decode cX8_init 125 = .ok (.iconst 4, 1) := by decide +kernel
theorem dX8_init_126 : decode cX8_init 126 = .ok (.newarray .int, 2) := by decide +kernel
theorem dX8_init_128 : decode cX8_init 128 = .ok (.putfield 55, 3) := by decide +kernel
theorem dX8_init_131 : decode cX8_init 131 = .ok (.aload_n 0, 1) := by decide +kernel
theorem dX8_init_132 : decode cX8_init 132 = .ok (.iconst 4, 1) := by decide +kernel
theorem dX8_init_133 : decode cX8_init 133 = .ok (.newarray .int, 2) := by decide +kernel
theorem dX8_init_135 : decode cX8_init 135 = .ok (.putfield 58, 3) := by decide +kernel
theorem dX8_init_138 : decode cX8_init 138 = .ok (.aload_n 0, 1) := by decide +kernel
theorem dX8_init_139 : decode cX8_init 139 = .ok (.bipush 80, 2) := by decide +kernel
theorem dX8_init_141 : decode cX8_init 141 = .ok (.newarray .int, 2) := by decide +kernel
theorem dX8_init_143 : decode cX8_init 143 = .ok (.putfield 61, 3) := by decide +kernel
theorem dX8_init_146 : decode cX8_init 146 = .ok (.aload_n 0, 1) := by decide +kernel
theorem dX8_init_147 : decode cX8_init 147 = .ok (.bipush 20, 2) := by decide +kernel
theorem dX8_init_149 : decode cX8_init 149 = .ok (.newarray .int, 2) := by decide +kernel
theorem dX8_init_151 : decode cX8_init 151 = .ok (.putfield 64, 3) := by decide +kernel
theorem dX8_init_154 : decode cX8_init 154 = .ok (.aload_n 0, 1) := by decide +kernel
theorem dX8_init_155 : decode cX8_init 155 = .ok (.sipush 384, 3) := by decide +kernel
theorem dX8_init_158 : decode cX8_init 158 = .ok (.newarray .int, 2) := by decide +kernel
theorem dX8_init_160 : decode cX8_init 160 = .ok (.putfield 67, 3) := by decide +kernel
theorem dX8_init_163 : decode cX8_init 163 = .ok (.aload_n 0, 1) := by decide +kernel
theorem dX8_init_164 : decode cX8_init 164 = .ok (.sipush 384, 3) := by decide +kernel
theorem dX8_init_167 : decode cX8_init 167 = .ok (.newarray .int, 2) := by decide +kernel
theorem dX8_init_169 : decode cX8_init 169 = .ok (.putfield 70, 3) := by decide +kernel
theorem dX8_init_172 : decode cX8_init 172 = .ok (.iconst 0, 1) := by decide +kernel
theorem dX8_init_173 : decode cX8_init 173 = .ok (.istore_n 1, 1) := by decide +kernel
theorem dX8_init_174 : decode cX8_init 174 = .ok (.iload_n 1, 1) := by decide +kernel
theorem dX8_init_175 : decode cX8_init 175 = .ok (.iconst 4, 1) := by decide +kernel
theorem dX8_init_176 : decode cX8_init 176 = .ok (.if_icmp .ge 16, 3) := by decide +kernel
theorem dX8_init_179 : decode cX8_init 179 = .ok (.aload_n 0, 1) := by decide +kernel
theorem dX8_init_180 : decode cX8_init 180 = .ok (.getfield 52, 3) := by decide +kernel
theorem dX8_init_183 : decode cX8_init 183 = .ok (.iload_n 1, 1) := by decide +kernel
theorem dX8_init_184 : decode cX8_init 184 = .ok (.iconst (-1), 1) := by decide +kernel
theorem dX8_init_185 : decode cX8_init 185 = .ok (.iastore, 1) := by decide +kernel
theorem dX8_init_186 : decode cX8_init 186 = .ok (.iinc 1 1, 3) := by decide +kernel
theorem dX8_init_189 : decode cX8_init 189 = .ok (.goto (-15), 3) := by decide +kernel
theorem dX8_init_192 : decode cX8_init 192 = .ok (.return_, 1) := by decide +kernel
theorem dX8_thrown_0 : decode cX8_thrown 0 = .ok (.aload_n 0, 1) := by decide +kernel
theorem dX8_thrown_1 : decode cX8_thrown 1 = .ok (.getfield 73, 3) := by decide +kernel
theorem dX8_thrown_4 : decode cX8_thrown 4 = .ok (.ireturn, 1) := by decide +kernel
theorem dX8_refused_0 : decode cX8_refused 0 = .ok (.aload_n 0, 1) := by decide +kernel
theorem dX8_refused_1 : decode cX8_refused 1 = .ok (.iload_n 1, 1) := by decide +kernel
theorem dX8_refused_2 : decode cX8_refused 2 = .ok (.putfield 73, 3) := by decide +kernel
theorem dX8_refused_5 : decode cX8_refused 5 = .ok (.iload_n 1, 1) := by decide +kernel
theorem dX8_refused_6 : decode cX8_refused 6 = .ok (.ifCond .eq 7, 3) := by decide +kernel
theorem dX8_refused_9 : decode cX8_refused 9 = .ok (.iconst 1, 1) := by decide +kernel
theorem dX8_refused_10 : decode cX8_refused 10 = .ok (.goto 4, 3) := by decide +kernel
theorem dX8_refused_13 : decode cX8_refused 13 = .ok (.iconst 0, 1) := by decide +kernel
theorem dX8_refused_14 : decode cX8_refused 14 = .ok (.ireturn, 1) := by decide +kernel
theorem dX8_is_0 : decode cX8_is 0 = .ok (.iload_n 0, 1) := by decide +kernel
theorem dX8_is_1 : decode cX8_is 1 = .ok (.iload_n 1, 1) := by decide +kernel
theorem dX8_is_2 : decode cX8_is 2 = .ok (.if_icmp .lt 12, 3) := by decide +kernel
theorem dX8_is_5 : decode cX8_is 5 = .ok (.iload_n 0, 1) := by decide +kernel
theorem dX8_is_6 : decode cX8_is 6 = .ok (.iload_n 2, 1) := by decide +kernel
theorem dX8_is_7 : decode cX8_is 7 = .ok (.if_icmp .gt 7, 3) := by decide +kernel
theorem dX8_is_10 : decode cX8_is 10 = .ok (.iconst 1, 1) := by decide +kernel
theorem dX8_is_11 : decode cX8_is 11 = .ok (.goto 4, 3) := by decide +kernel
theorem dX8_is_14 : decode cX8_is 14 = .ok (.iconst 0, 1) := by decide +kernel
theorem dX8_is_15 : decode cX8_is 15 = .ok (.ireturn, 1) := by decide +kernel
theorem dX8_isPattern_0 : decode cX8_isPattern 0 = .ok (.iload_n 1, 1) := by decide +kernel
theorem dX8_isPattern_1 : decode cX8_isPattern 1 = .ok (.iconst 0, 1) := by decide +kernel
theorem dX8_isPattern_2 : decode cX8_isPattern 2 = .ok (.aload_n 0, 1) := by decide +kernel
theorem dX8_isPattern_3 : decode cX8_isPattern 3 = .ok (.getfield 77, 3) := by decide +kernel
theorem dX8_isPattern_6 : decode cX8_isPattern 6 = .ok (.iconst 1, 1) := by decide +kernel
theorem dX8_isPattern_7 : decode cX8_isPattern 7 = .ok (.isub, 1) := by decide +kernel
theorem dX8_isPattern_8 : decode cX8_isPattern 8 = .ok (.invokestatic 80, 3) := by decide +kernel
theorem dX8_isPattern_11 : decode cX8_isPattern 11 = .ok (.ireturn, 1) := by decide +kernel
theorem dX8_pattern_0 : decode cX8_pattern 0 = .ok (.iload_n 1, 1) := by decide +kernel
theorem dX8_pattern_1 : decode cX8_pattern 1 = .ok (.iconst 1, 1) := by decide +kernel
theorem dX8_pattern_2 : decode cX8_pattern 2 = .ok (.iconst 5, 1) := by decide +kernel
theorem dX8_pattern_3 : decode cX8_pattern 3 = .ok (.invokestatic 80, 3) := by decide +kernel
theorem dX8_pattern_6 : decode cX8_pattern 6 = .ok (.ifCond .eq 35, 3) := by decide +kernel
theorem dX8_pattern_9 : decode cX8_pattern 9 = .ok (.iload_n 2, 1) := by decide +kernel
theorem dX8_pattern_10 : decode cX8_pattern 10 = .ok (.iconst 1, 1) := by decide +kernel
theorem dX8_pattern_11 : decode cX8_pattern 11 = .ok (.iconst 5, 1) := by decide +kernel
theorem dX8_pattern_12 : decode cX8_pattern 12 = .ok (.invokestatic 80, 3) := by decide +kernel
theorem dX8_pattern_15 : decode cX8_pattern 15 = .ok (.ifCond .eq 26, 3) := by decide +kernel
theorem dX8_pattern_18 : decode cX8_pattern 18 = .ok (.iload_n 3, 1) := by decide +kernel
theorem dX8_pattern_19 : decode cX8_pattern 19 = .ok (.iconst 0, 1) := by decide +kernel
theorem dX8_pattern_20 : decode cX8_pattern 20 = .ok (.iconst 5, 1) := by decide +kernel
theorem dX8_pattern_21 : decode cX8_pattern 21 = .ok (.invokestatic 80, 3) := by decide +kernel
theorem dX8_pattern_24 : decode cX8_pattern 24 = .ok (.ifCond .eq 17, 3) := by decide +kernel
theorem dX8_pattern_27 : decode cX8_pattern 27 = .ok (.iload_n 3, 1) := by decide +kernel
theorem dX8_pattern_28 : decode cX8_pattern 28 = .ok (.iconst 5, 1) := by decide +kernel
theorem dX8_pattern_29 : decode cX8_pattern 29 = .ok (.if_icmp .ne 8, 3) := by decide +kernel
theorem dX8_pattern_32 : decode cX8_pattern 32 = .ok (.iload_n 1, 1) := by decide +kernel
theorem dX8_pattern_33 : decode cX8_pattern 33 = .ok (.iload_n 2, 1) := by decide +kernel
theorem dX8_pattern_34 : decode cX8_pattern 34 = .ok (.if_icmp .ne 7, 3) := by decide +kernel
theorem dX8_pattern_37 : decode cX8_pattern 37 = .ok (.iconst 1, 1) := by decide +kernel
theorem dX8_pattern_38 : decode cX8_pattern 38 = .ok (.goto 4, 3) := by decide +kernel
theorem dX8_pattern_41 : decode cX8_pattern 41 = .ok (.iconst 0, 1) := by decide +kernel
theorem dX8_pattern_42 : decode cX8_pattern 42 = .ok (.istore 4, 2) := by decide +kernel
theorem dX8_pattern_44 : decode cX8_pattern 44 = .ok (.aload_n 0, 1) := by decide +kernel
theorem dX8_pattern_45 : decode cX8_pattern 45 = .ok (.iload 4, 2) := by decide +kernel
theorem dX8_pattern_47 : decode cX8_pattern 47 = .ok (.ifCond .ne 7, 3) := by decide +kernel
theorem dX8_pattern_50 : decode cX8_pattern 50 = .ok (.iconst 1, 1) := by decide +kernel
theorem dX8_pattern_51 : decode cX8_pattern 51 = .ok (.goto 17, 3) := by decide +kernel
theorem dX8_pattern_54 : decode cX8_pattern 54 = .ok (.aload_n 0, 1) := by decide +kernel
theorem dX8_pattern_55 : decode cX8_pattern 55 = .ok (.getfield 77, 3) := by decide +kernel
theorem dX8_pattern_58 : decode cX8_pattern 58 = .ok (.bipush 6, 2) := by decide +kernel
theorem dX8_pattern_60 : decode cX8_pattern 60 = .ok (.if_icmp .ne 7, 3) := by decide +kernel
theorem dX8_pattern_63 : decode cX8_pattern 63 = .ok (.iconst 2, 1) := by decide +kernel
theorem dX8_pattern_64 : decode cX8_pattern 64 = .ok (.goto 4, 3) := by decide +kernel
theorem dX8_pattern_67 : decode cX8_pattern 67 = .ok (.iconst 0, 1) := by decide +kernel
theorem dX8_pattern_68 : decode cX8_pattern 68 = .ok (.invokevirtual 84, 3) := by decide +kernel
theorem dX8_pattern_71 : decode cX8_pattern 71 = .ok (.ifCond .eq 5, 3) := by decide +kernel
theorem dX8_pattern_74 : decode cX8_pattern 74 = .ok (.iconst 0, 1) := by decide +kernel
theorem dX8_pattern_75 : decode cX8_pattern 75 = .ok (.ireturn, 1) := by decide +kernel
theorem dX8_pattern_76 : decode cX8_pattern 76 = .ok (.aload_n 0, 1) := by decide +kernel
theorem dX8_pattern_77 : decode cX8_pattern 77 = .ok (.getfield 7, 3) := by decide +kernel
theorem dX8_pattern_80 : decode cX8_pattern 80 = .ok (.aload_n 0, 1) := by decide +kernel
theorem dX8_pattern_81 : decode cX8_pattern 81 = .ok (.getfield 77, 3) := by decide +kernel
theorem dX8_pattern_84 : decode cX8_pattern 84 = .ok (.iload_n 1, 1) := by decide +kernel
theorem dX8_pattern_85 : decode cX8_pattern 85 = .ok (.iastore, 1) := by decide +kernel
theorem dX8_pattern_86 : decode cX8_pattern 86 = .ok (.aload_n 0, 1) := by decide +kernel
theorem dX8_pattern_87 : decode cX8_pattern 87 = .ok (.getfield 13, 3) := by decide +kernel
theorem dX8_pattern_90 : decode cX8_pattern 90 = .ok (.aload_n 0, 1) := by decide +kernel
theorem dX8_pattern_91 : decode cX8_pattern 91 = .ok (.getfield 77, 3) := by decide +kernel
theorem dX8_pattern_94 : decode cX8_pattern 94 = .ok (.iload_n 2, 1) := by decide +kernel
theorem dX8_pattern_95 : decode cX8_pattern 95 = .ok (.iastore, 1) := by decide +kernel
theorem dX8_pattern_96 : decode cX8_pattern 96 = .ok (.aload_n 0, 1) := by decide +kernel
theorem dX8_pattern_97 : decode cX8_pattern 97 = .ok (.getfield 16, 3) := by decide +kernel
theorem dX8_pattern_100 : decode cX8_pattern 100 = .ok (.aload_n 0, 1) := by decide +kernel
theorem dX8_pattern_101 : decode cX8_pattern 101 = .ok (.getfield 77, 3) := by decide +kernel
theorem dX8_pattern_104 : decode cX8_pattern 104 = .ok (.iload_n 3, 1) := by decide +kernel
theorem dX8_pattern_105 : decode cX8_pattern 105 = .ok (.iastore, 1) := by decide +kernel
theorem dX8_pattern_106 : decode cX8_pattern 106 = .ok (.aload_n 0, 1) := by decide +kernel
theorem dX8_pattern_107 : decode cX8_pattern 107 = .ok (.dup, 1) := by decide +kernel
theorem dX8_pattern_108 : decode cX8_pattern 108 = .ok (.getfield 77, 3) := by decide +kernel
theorem dX8_pattern_111 : decode cX8_pattern 111 = .ok (.iconst 1, 1) := by decide +kernel
theorem dX8_pattern_112 : decode cX8_pattern 112 = .ok (.iadd, 1) := by decide +kernel
theorem dX8_pattern_113 : decode cX8_pattern 113 = .ok (.putfield 77, 3) := by decide +kernel
theorem dX8_pattern_116 : decode cX8_pattern 116 = .ok (.aload_n 0, 1) := by decide +kernel
theorem dX8_pattern_117 : decode cX8_pattern 117 = .ok (.getfield 77, 3) := by decide +kernel
theorem dX8_pattern_120 : decode cX8_pattern 120 = .ok (.iconst 1, 1) := by decide +kernel
theorem dX8_pattern_121 : decode cX8_pattern 121 = .ok (.isub, 1) := by decide +kernel
theorem dX8_pattern_122 : decode cX8_pattern 122 = .ok (.ireturn, 1) := by decide +kernel
theorem dX8_paint_0 : decode cX8_paint 0 = .ok (.aload_n 0, 1) := by decide +kernel
theorem dX8_paint_1 : decode cX8_paint 1 = .ok (.iload_n 1, 1) := by decide +kernel
theorem dX8_paint_2 : decode cX8_paint 2 = .ok (.invokevirtual 88, 3) := by decide +kernel
theorem dX8_paint_5 : decode cX8_paint 5 = .ok (.ifCond .eq 39, 3) := by decide +kernel
theorem dX8_paint_8 : decode cX8_paint 8 = .ok (.iload_n 2, 1) := by decide +kernel
theorem dX8_paint_9 : decode cX8_paint 9 = .ok (.iconst 0, 1) := by decide +kernel
theorem dX8_paint_10 : decode cX8_paint 10 = .ok (.aload_n 0, 1) := by decide +kernel
theorem dX8_paint_11 : decode cX8_paint 11 = .ok (.getfield 7, 3) := by decide +kernel
theorem dX8_paint_14 : decode cX8_paint 14 = .ok (.iload_n 1, 1) := by decide +kernel
theorem dX8_paint_15 : decode cX8_paint 15 = .ok (.iaload, 1) := by decide +kernel
theorem dX8_paint_16 : decode cX8_paint 16 = .ok (.iconst 1, 1) := by decide +kernel
theorem dX8_paint_17 : decode cX8_paint 17 = .ok (.isub, 1) := by decide +kernel
theorem dX8_paint_18 : decode cX8_paint 18 = .ok (.invokestatic 80, 3) := by decide +kernel
theorem dX8_paint_21 : decode cX8_paint 21 = .ok (.ifCond .eq 23, 3) := by decide +kernel
theorem dX8_paint_24 : decode cX8_paint 24 = .ok (.iload_n 3, 1) := by decide +kernel
theorem dX8_paint_25 : decode cX8_paint 25 = .ok (.iconst 0, 1) := by decide +kernel
theorem dX8_paint_26 : decode cX8_paint 26 = .ok (.aload_n 0, 1) := by decide +kernel
theorem dX8_paint_27 : decode cX8_paint 27 = .ok (.getfield 13, 3) := by decide +kernel
theorem dX8_paint_30 : decode cX8_paint 30 = .ok (.iload_n 1, 1) := by decide +kernel
theorem dX8_paint_31 : decode cX8_paint 31 = .ok (.iaload, 1) := by decide +kernel
theorem dX8_paint_32 : decode cX8_paint 32 = .ok (.iconst 1, 1) := by decide +kernel
theorem dX8_paint_33 : decode cX8_paint 33 = .ok (.isub, 1) := by decide +kernel
theorem dX8_paint_34 : decode cX8_paint 34 = .ok (.invokestatic 80, 3) := by decide +kernel
theorem dX8_paint_37 : decode cX8_paint 37 = .ok (.ifCond .eq 7, 3) := by decide +kernel
theorem dX8_paint_40 : decode cX8_paint 40 = .ok (.iconst 1, 1) := by decide +kernel
theorem dX8_paint_41 : decode cX8_paint 41 = .ok (.goto 4, 3) := by decide +kernel
theorem dX8_paint_44 : decode cX8_paint 44 = .ok (.iconst 0, 1) := by decide +kernel
theorem dX8_paint_45 : decode cX8_paint 45 = .ok (.istore 5, 2) := by decide +kernel
theorem dX8_paint_47 : decode cX8_paint 47 = .ok (.aload_n 0, 1) := by decide +kernel
theorem dX8_paint_48 : decode cX8_paint 48 = .ok (.iload 5, 2) := by decide +kernel
theorem dX8_paint_50 : decode cX8_paint 50 = .ok (.ifCond .ne 7, 3) := by decide +kernel
theorem dX8_paint_53 : decode cX8_paint 53 = .ok (.iconst 1, 1) := by decide +kernel
theorem dX8_paint_54 : decode cX8_paint 54 = .ok (.goto 19, 3) := by decide +kernel
theorem dX8_paint_57 : decode cX8_paint 57 = .ok (.iload 4, 2) := by decide +kernel
theorem dX8_paint_59 : decode cX8_paint 59 = .ok (.iconst 0, 1) := by decide +kernel
theorem dX8_paint_60 : decode cX8_paint 60 = .ok (.bipush 7, 2) := by decide +kernel
theorem dX8_paint_62 : decode cX8_paint 62 = .ok (.invokestatic 80, 3) := by decide +kernel
theorem dX8_paint_65 : decode cX8_paint 65 = .ok (.ifCond .ne 7, 3) := by decide +kernel
theorem dX8_paint_68 : decode cX8_paint 68 = .ok (.iconst 2, 1) := by decide +kernel
theorem dX8_paint_69 : decode cX8_paint 69 = .ok (.goto 4, 3) := by decide +kernel
theorem dX8_paint_72 : decode cX8_paint 72 = .ok (.iconst 0, 1) := by decide +kernel
theorem dX8_paint_73 : decode cX8_paint 73 = .ok (.invokevirtual 84, 3) := by decide +kernel
theorem dX8_paint_76 : decode cX8_paint 76 = .ok (.ifCond .eq 5, 3) := by decide +kernel
theorem dX8_paint_79 : decode cX8_paint 79 = .ok (.iconst 0, 1) := by decide +kernel
theorem dX8_paint_80 : decode cX8_paint 80 = .ok (.ireturn, 1) := by decide +kernel
theorem dX8_paint_81 : decode cX8_paint 81 = .ok (.bipush 25, 2) := by decide +kernel
theorem dX8_paint_83 : decode cX8_paint 83 = .ok (.iload_n 1, 1) := by decide +kernel
theorem dX8_paint_84 : decode cX8_paint 84 = .ok (.imul, 1) := by decide +kernel
theorem dX8_paint_85 : decode cX8_paint 85 = .ok (.iconst 5, 1) := by decide +kernel
theorem dX8_paint_86 : decode cX8_paint 86 = .ok (.iload_n 3, 1) := by decide +kernel
theorem dX8_paint_87 : decode cX8_paint 87 = .ok (.imul, 1) := by decide +kernel
theorem dX8_paint_88 : decode cX8_paint 88 = .ok (.iadd, 1) := by decide +kernel
theorem dX8_paint_89 : decode cX8_paint 89 = .ok (.iload_n 2, 1) := by decide +kernel
theorem dX8_paint_90 : decode cX8_paint 90 = .ok (.iadd, 1) := by decide +kernel
theorem dX8_paint_91 : decode cX8_paint 91 = .ok (.istore 6, 2) := by decide +kernel
theorem dX8_paint_93 : decode cX8_paint 93 = .ok (.aload_n 0, 1) := by decide +kernel
theorem dX8_paint_94 : decode cX8_paint 94 = .ok (.getfield 19, 3) := by decide +kernel
theorem dX8_paint_97 : decode cX8_paint 97 = .ok (.iload 6, 2) := by decide +kernel
theorem dX8_paint_99 : decode cX8_paint 99 = .ok (.iaload, 1) := by decide +kernel
theorem dX8_paint_100 : decode cX8_paint 100 = .ok (.istore 7, 2) := by decide +kernel
theorem dX8_paint_102 : decode cX8_paint 102 = .ok (.aload_n 0, 1) := by decide +kernel
theorem dX8_paint_103 : decode cX8_paint 103 = .ok (.getfield 19, 3) := by decide +kernel
theorem dX8_paint_106 : decode cX8_paint 106 = .ok (.iload 6, 2) := by decide +kernel
theorem dX8_paint_108 : decode cX8_paint 108 = .ok (.iload 4, 2) := by decide +kernel
theorem dX8_paint_110 : decode cX8_paint 110 = .ok (.iastore, 1) := by decide +kernel
theorem dX8_paint_111 : decode cX8_paint 111 = .ok (.iload 7, 2) := by decide +kernel
theorem dX8_paint_113 : decode cX8_paint 113 = .ok (.ireturn, 1) := by decide +kernel
theorem dX8_columns_0 : decode cX8_columns 0 = .ok (.aload_n 0, 1) := by decide +kernel
theorem dX8_columns_1 : decode cX8_columns 1 = .ok (.getfield 16, 3) := by decide +kernel
theorem dX8_columns_4 : decode cX8_columns 4 = .ok (.iload_n 1, 1) := by decide +kernel
theorem dX8_columns_5 : decode cX8_columns 5 = .ok (.iaload, 1) := by decide +kernel
theorem dX8_columns_6 : decode cX8_columns 6 = .ok (.iconst 2, 1) := by decide +kernel
theorem dX8_columns_7 : decode cX8_columns 7 = .ok (.if_icmp .ge 12, 3) := by decide +kernel
theorem dX8_columns_10 : decode cX8_columns 10 = .ok (.aload_n 0, 1) := by decide +kernel
theorem dX8_columns_11 : decode cX8_columns 11 = .ok (.getfield 7, 3) := by decide +kernel
theorem dX8_columns_14 : decode cX8_columns 14 = .ok (.iload_n 1, 1) := by decide +kernel
theorem dX8_columns_15 : decode cX8_columns 15 = .ok (.iaload, 1) := by decide +kernel
theorem dX8_columns_16 : decode cX8_columns 16 = .ok (.goto 11, 3) := by decide +kernel
theorem dX8_columns_19 : decode cX8_columns 19 = .ok (.iconst 2, 1) := by decide +kernel
theorem dX8_columns_20 : decode cX8_columns 20 = .ok (.aload_n 0, 1) := by decide +kernel
theorem dX8_columns_21 : decode cX8_columns 21 = .ok (.getfield 7, 3) := by decide +kernel
theorem dX8_columns_24 : decode cX8_columns 24 = .ok (.iload_n 1, 1) := by decide +kernel
theorem dX8_columns_25 : decode cX8_columns 25 = .ok (.iaload, 1) := by decide +kernel
theorem dX8_columns_26 : decode cX8_columns 26 = .ok (.imul, 1) := by decide +kernel
theorem dX8_columns_27 : decode cX8_columns 27 = .ok (.ireturn, 1) := by decide +kernel
theorem dX8_rows_0 : decode cX8_rows 0 = .ok (.aload_n 0, 1) := by decide +kernel
theorem dX8_rows_1 : decode cX8_rows 1 = .ok (.getfield 16, 3) := by decide +kernel
theorem dX8_rows_4 : decode cX8_rows 4 = .ok (.iload_n 1, 1) := by decide +kernel
theorem dX8_rows_5 : decode cX8_rows 5 = .ok (.iaload, 1) := by decide +kernel
theorem dX8_rows_6 : decode cX8_rows 6 = .ok (.iconst 1, 1) := by decide +kernel
theorem dX8_rows_7 : decode cX8_rows 7 = .ok (.if_icmp .eq 13, 3) := by decide +kernel
theorem dX8_rows_10 : decode cX8_rows 10 = .ok (.aload_n 0, 1) := by decide +kernel
theorem dX8_rows_11 : decode cX8_rows 11 = .ok (.getfield 16, 3) := by decide +kernel
theorem dX8_rows_14 : decode cX8_rows 14 = .ok (.iload_n 1, 1) := by decide +kernel
theorem dX8_rows_15 : decode cX8_rows 15 = .ok (.iaload, 1) := by decide +kernel
theorem dX8_rows_16 : decode cX8_rows 16 = .ok (.iconst 3, 1) := by decide +kernel
theorem dX8_rows_17 : decode cX8_rows 17 = .ok (.if_icmp .le 14, 3) := by decide +kernel
theorem dX8_rows_20 : decode cX8_rows 20 = .ok (.iconst 2, 1) := by decide +kernel
theorem dX8_rows_21 : decode cX8_rows 21 = .ok (.aload_n 0, 1) := by decide +kernel
theorem dX8_rows_22 : decode cX8_rows 22 = .ok (.getfield 13, 3) := by decide +kernel
theorem dX8_rows_25 : decode cX8_rows 25 = .ok (.iload_n 1, 1) := by decide +kernel
theorem dX8_rows_26 : decode cX8_rows 26 = .ok (.iaload, 1) := by decide +kernel
theorem dX8_rows_27 : decode cX8_rows 27 = .ok (.imul, 1) := by decide +kernel
theorem dX8_rows_28 : decode cX8_rows 28 = .ok (.goto 9, 3) := by decide +kernel
theorem dX8_rows_31 : decode cX8_rows 31 = .ok (.aload_n 0, 1) := by decide +kernel
theorem dX8_rows_32 : decode cX8_rows 32 = .ok (.getfield 13, 3) := by decide +kernel
theorem dX8_rows_35 : decode cX8_rows 35 = .ok (.iload_n 1, 1) := by decide +kernel
theorem dX8_rows_36 : decode cX8_rows 36 = .ok (.iaload, 1) := by decide +kernel
theorem dX8_rows_37 : decode cX8_rows 37 = .ok (.ireturn, 1) := by decide +kernel
theorem dX8_cell_0 : decode cX8_cell 0 = .ok (.aload_n 0, 1) := by decide +kernel
theorem dX8_cell_1 : decode cX8_cell 1 = .ok (.getfield 7, 3) := by decide +kernel
theorem dX8_cell_4 : decode cX8_cell 4 = .ok (.iload_n 1, 1) := by decide +kernel
theorem dX8_cell_5 : decode cX8_cell 5 = .ok (.iaload, 1) := by decide +kernel
theorem dX8_cell_6 : decode cX8_cell 6 = .ok (.istore 4, 2) := by decide +kernel
theorem dX8_cell_8 : decode cX8_cell 8 = .ok (.aload_n 0, 1) := by decide +kernel
theorem dX8_cell_9 : decode cX8_cell 9 = .ok (.getfield 13, 3) := by decide +kernel
theorem dX8_cell_12 : decode cX8_cell 12 = .ok (.iload_n 1, 1) := by decide +kernel
theorem dX8_cell_13 : decode cX8_cell 13 = .ok (.iaload, 1) := by decide +kernel
theorem dX8_cell_14 : decode cX8_cell 14 = .ok (.istore 5, 2) := by decide +kernel
theorem dX8_cell_16 : decode cX8_cell 16 = .ok (.iload_n 2, 1) := by decide +kernel
theorem dX8_cell_17 : decode cX8_cell 17 = .ok (.iload 4, 2) := by decide +kernel
theorem dX8_cell_19 : decode cX8_cell 19 = .ok (.if_icmp .lt 7, 3) := by decide +kernel
theorem dX8_cell_22 : decode cX8_cell 22 = .ok (.iconst 1, 1) := by decide +kernel
theorem dX8_cell_23 : decode cX8_cell 23 = .ok (.goto 4, 3) := by decide +kernel
theorem dX8_cell_26 : decode cX8_cell 26 = .ok (.iconst 0, 1) := by decide +kernel
theorem dX8_cell_27 : decode cX8_cell 27 = .ok (.istore 6, 2) := by decide +kernel
theorem dX8_cell_29 : decode cX8_cell 29 = .ok (.iload_n 3, 1) := by decide +kernel
theorem dX8_cell_30 : decode cX8_cell 30 = .ok (.iload 5, 2) := by decide +kernel
theorem dX8_cell_32 : decode cX8_cell 32 = .ok (.if_icmp .lt 7, 3) := by decide +kernel
theorem dX8_cell_35 : decode cX8_cell 35 = .ok (.iconst 1, 1) := by decide +kernel
theorem dX8_cell_36 : decode cX8_cell 36 = .ok (.goto 4, 3) := by decide +kernel
theorem dX8_cell_39 : decode cX8_cell 39 = .ok (.iconst 0, 1) := by decide +kernel
theorem dX8_cell_40 : decode cX8_cell 40 = .ok (.istore 7, 2) := by decide +kernel
theorem dX8_cell_42 : decode cX8_cell 42 = .ok (.iload 6, 2) := by decide +kernel
theorem dX8_cell_44 : decode cX8_cell 44 = .ok (.ifCond .eq 10, 3) := by decide +kernel
theorem dX8_cell_47 : decode cX8_cell 47 = .ok (.iload_n 2, 1) := by decide +kernel
theorem dX8_cell_48 : decode cX8_cell 48 = .ok (.iload 4, 2) := by decide +kernel
theorem dX8_cell_50 : decode cX8_cell 50 = .ok (.isub, 1) := by decide +kernel
theorem dX8_cell_51 : decode cX8_cell 51 = .ok (.goto 4, 3) := by decide +kernel
theorem dX8_cell_54 : decode cX8_cell 54 = .ok (.iload_n 2, 1) := by decide +kernel
theorem dX8_cell_55 : decode cX8_cell 55 = .ok (.istore 8, 2) := by decide +kernel
theorem dX8_cell_57 : decode cX8_cell 57 = .ok (.iload 7, 2) := by decide +kernel
theorem dX8_cell_59 : decode cX8_cell 59 = .ok (.ifCond .eq 10, 3) := by decide +kernel
theorem dX8_cell_62 : decode cX8_cell 62 = .ok (.iload_n 3, 1) := by decide +kernel
theorem dX8_cell_63 : decode cX8_cell 63 = .ok (.iload 5, 2) := by decide +kernel
theorem dX8_cell_65 : decode cX8_cell 65 = .ok (.isub, 1) := by decide +kernel
theorem dX8_cell_66 : decode cX8_cell 66 = .ok (.goto 4, 3) := by decide +kernel
theorem dX8_cell_69 : decode cX8_cell 69 = .ok (.iload_n 3, 1) := by decide +kernel
theorem dX8_cell_70 : decode cX8_cell 70 = .ok (.istore 9, 2) := by decide +kernel
theorem dX8_cell_72 : decode cX8_cell 72 = .ok (.iload 8, 2) := by decide +kernel
theorem dX8_cell_74 : decode cX8_cell 74 = .ok (.istore 10, 2) := by decide +kernel
theorem dX8_cell_76 : decode cX8_cell 76 = .ok (.iload 9, 2) := by decide +kernel
theorem dX8_cell_78 : decode cX8_cell 78 = .ok (.istore 11, 2) := by decide +kernel
theorem dX8_cell_80 : decode cX8_cell 80 = .ok (.aload_n 0, 1) := by decide +kernel
theorem dX8_cell_81 : decode cX8_cell 81 = .ok (.getfield 16, 3) := by decide +kernel
theorem dX8_cell_84 : decode cX8_cell 84 = .ok (.iload_n 1, 1) := by decide +kernel
theorem dX8_cell_85 : decode cX8_cell 85 = .ok (.iaload, 1) := by decide +kernel
theorem dX8_cell_86 : decode cX8_cell 86 = .ok (.iconst 1, 1) := by decide +kernel
theorem dX8_cell_87 : decode cX8_cell 87 = .ok (.if_icmp .ne 26, 3) := by decide +kernel
theorem dX8_cell_90 : decode cX8_cell 90 = .ok (.iload 7, 2) := by decide +kernel
theorem dX8_cell_92 : decode cX8_cell 92 = .ok (.ifCond .eq 21, 3) := by decide +kernel
theorem dX8_cell_95 : decode cX8_cell 95 = .ok (.iload 4, 2) := by decide +kernel
theorem dX8_cell_97 : decode cX8_cell 97 = .ok (.iconst 1, 1) := by decide +kernel
theorem dX8_cell_98 : decode cX8_cell 98 = .ok (.isub, 1) := by decide +kernel
theorem dX8_cell_99 : decode cX8_cell 99 = .ok (.iload 8, 2) := by decide +kernel
theorem dX8_cell_101 : decode cX8_cell 101 = .ok (.isub, 1) := by decide +kernel
theorem dX8_cell_102 : decode cX8_cell 102 = .ok (.istore 10, 2) := by decide +kernel
theorem dX8_cell_104 : decode cX8_cell 104 = .ok (.iload 5, 2) := by decide +kernel
theorem dX8_cell_106 : decode cX8_cell 106 = .ok (.iconst 1, 1) := by decide +kernel
theorem dX8_cell_107 : decode cX8_cell 107 = .ok (.isub, 1) := by decide +kernel
theorem dX8_cell_108 : decode cX8_cell 108 = .ok (.iload 9, 2) := by decide +kernel
theorem dX8_cell_110 : decode cX8_cell 110 = .ok (.isub, 1) := by decide +kernel
theorem dX8_cell_111 : decode cX8_cell 111 = .ok (.istore 11, 2) := by decide +kernel
theorem dX8_cell_113 : decode cX8_cell 113 = .ok (.aload_n 0, 1) := by decide +kernel
theorem dX8_cell_114 : decode cX8_cell 114 = .ok (.getfield 16, 3) := by decide +kernel
theorem dX8_cell_117 : decode cX8_cell 117 = .ok (.iload_n 1, 1) := by decide +kernel
theorem dX8_cell_118 : decode cX8_cell 118 = .ok (.iaload, 1) := by decide +kernel
theorem dX8_cell_119 : decode cX8_cell 119 = .ok (.iconst 2, 1) := by decide +kernel
theorem dX8_cell_120 : decode cX8_cell 120 = .ok (.if_icmp .eq 13, 3) := by decide +kernel
theorem dX8_cell_123 : decode cX8_cell 123 = .ok (.aload_n 0, 1) := by decide +kernel
theorem dX8_cell_124 : decode cX8_cell 124 = .ok (.getfield 16, 3) := by decide +kernel
theorem dX8_cell_127 : decode cX8_cell 127 = .ok (.iload_n 1, 1) := by decide +kernel
theorem dX8_cell_128 : decode cX8_cell 128 = .ok (.iaload, 1) := by decide +kernel
theorem dX8_cell_129 : decode cX8_cell 129 = .ok (.iconst 4, 1) := by decide +kernel
theorem dX8_cell_130 : decode cX8_cell 130 = .ok (.if_icmp .ne 17, 3) := by decide +kernel
theorem dX8_cell_133 : decode cX8_cell 133 = .ok (.iload 6, 2) := by decide +kernel
theorem dX8_cell_135 : decode cX8_cell 135 = .ok (.ifCond .eq 12, 3) := by decide +kernel
theorem dX8_cell_138 : decode cX8_cell 138 = .ok (.iload 4, 2) := by decide +kernel
theorem dX8_cell_140 : decode cX8_cell 140 = .ok (.iconst 1, 1) := by decide +kernel
theorem dX8_cell_141 : decode cX8_cell 141 = .ok (.isub, 1) := by decide +kernel
theorem dX8_cell_142 : decode cX8_cell 142 = .ok (.iload 8, 2) := by decide +kernel
theorem dX8_cell_144 : decode cX8_cell 144 = .ok (.isub, 1) := by decide +kernel
theorem dX8_cell_145 : decode cX8_cell 145 = .ok (.istore 10, 2) := by decide +kernel
theorem dX8_cell_147 : decode cX8_cell 147 = .ok (.aload_n 0, 1) := by decide +kernel
theorem dX8_cell_148 : decode cX8_cell 148 = .ok (.getfield 16, 3) := by decide +kernel
theorem dX8_cell_151 : decode cX8_cell 151 = .ok (.iload_n 1, 1) := by decide +kernel
theorem dX8_cell_152 : decode cX8_cell 152 = .ok (.iaload, 1) := by decide +kernel
theorem dX8_cell_153 : decode cX8_cell 153 = .ok (.iconst 3, 1) := by decide +kernel
theorem dX8_cell_154 : decode cX8_cell 154 = .ok (.if_icmp .ne 8, 3) := by decide +kernel
theorem dX8_cell_157 : decode cX8_cell 157 = .ok (.iload 6, 2) := by decide +kernel
theorem dX8_cell_159 : decode cX8_cell 159 = .ok (.ifCond .ne 18, 3) := by decide +kernel
theorem dX8_cell_162 : decode cX8_cell 162 = .ok (.aload_n 0, 1) := by decide +kernel
theorem dX8_cell_163 : decode cX8_cell 163 = .ok (.getfield 16, 3) := by decide +kernel
theorem dX8_cell_166 : decode cX8_cell 166 = .ok (.iload_n 1, 1) := by decide +kernel
theorem dX8_cell_167 : decode cX8_cell 167 = .ok (.iaload, 1) := by decide +kernel
theorem dX8_cell_168 : decode cX8_cell 168 = .ok (.iconst 4, 1) := by decide +kernel
theorem dX8_cell_169 : decode cX8_cell 169 = .ok (.if_icmp .ne 17, 3) := by decide +kernel
theorem dX8_cell_172 : decode cX8_cell 172 = .ok (.iload 7, 2) := by decide +kernel
theorem dX8_cell_174 : decode cX8_cell 174 = .ok (.ifCond .eq 12, 3) := by decide +kernel
theorem dX8_cell_177 : decode cX8_cell 177 = .ok (.iload 5, 2) := by decide +kernel
theorem dX8_cell_179 : decode cX8_cell 179 = .ok (.iconst 1, 1) := by decide +kernel
theorem dX8_cell_180 : decode cX8_cell 180 = .ok (.isub, 1) := by decide +kernel
theorem dX8_cell_181 : decode cX8_cell 181 = .ok (.iload 9, 2) := by decide +kernel
theorem dX8_cell_183 : decode cX8_cell 183 = .ok (.isub, 1) := by decide +kernel
theorem dX8_cell_184 : decode cX8_cell 184 = .ok (.istore 11, 2) := by decide +kernel
theorem dX8_cell_186 : decode cX8_cell 186 = .ok (.aload_n 0, 1) := by decide +kernel
theorem dX8_cell_187 : decode cX8_cell 187 = .ok (.getfield 16, 3) := by decide +kernel
theorem dX8_cell_190 : decode cX8_cell 190 = .ok (.iload_n 1, 1) := by decide +kernel
theorem dX8_cell_191 : decode cX8_cell 191 = .ok (.iaload, 1) := by decide +kernel
theorem dX8_cell_192 : decode cX8_cell 192 = .ok (.iconst 5, 1) := by decide +kernel
theorem dX8_cell_193 : decode cX8_cell 193 = .ok (.if_icmp .ne 91, 3) := by decide +kernel
theorem dX8_cell_196 : decode cX8_cell 196 = .ok (.iload 6, 2) := by decide +kernel
theorem dX8_cell_198 : decode cX8_cell 198 = .ok (.ifCond .ne 8, 3) := by decide +kernel
theorem dX8_cell_201 : decode cX8_cell 201 = .ok (.iload 7, 2) := by decide +kernel
theorem dX8_cell_203 : decode cX8_cell 203 = .ok (.ifCond .eq 81, 3) := by decide +kernel
theorem dX8_cell_206 : decode cX8_cell 206 = .ok (.iload 6, 2) := by decide +kernel
theorem dX8_cell_208 : decode cX8_cell 208 = .ok (.ifCond .eq 18, 3) := by decide +kernel
theorem dX8_cell_211 : decode cX8_cell 211 = .ok (.iload 7, 2) := by decide +kernel
theorem dX8_cell_213 : decode cX8_cell 213 = .ok (.ifCond .eq 13, 3) := by decide +kernel
theorem dX8_cell_216 : decode cX8_cell 216 = .ok (.iload 4, 2) := by decide +kernel
theorem dX8_cell_218 : decode cX8_cell 218 = .ok (.iconst 1, 1) := by decide +kernel
theorem dX8_cell_219 : decode cX8_cell 219 = .ok (.isub, 1) := by decide +kernel
theorem dX8_cell_220 : decode cX8_cell 220 = .ok (.iload 8, 2) := by decide +kernel
theorem dX8_cell_222 : decode cX8_cell 222 = .ok (.isub, 1) := by decide +kernel
theorem dX8_cell_223 : decode cX8_cell 223 = .ok (.goto 20, 3) := by decide +kernel
theorem dX8_cell_226 : decode cX8_cell 226 = .ok (.iload 6, 2) := by decide +kernel
theorem dX8_cell_228 : decode cX8_cell 228 = .ok (.ifCond .eq 8, 3) := by decide +kernel
theorem dX8_cell_231 : decode cX8_cell 231 = .ok (.iload 9, 2) := by decide +kernel
theorem dX8_cell_233 : decode cX8_cell 233 = .ok (.goto 10, 3) := by decide +kernel
theorem dX8_cell_236 : decode cX8_cell 236 = .ok (.iload 4, 2) := by decide +kernel
theorem dX8_cell_238 : decode cX8_cell 238 = .ok (.iconst 1, 1) := by decide +kernel
theorem dX8_cell_239 : decode cX8_cell 239 = .ok (.isub, 1) := by decide +kernel
theorem dX8_cell_240 : decode cX8_cell 240 = .ok (.iload 9, 2) := by decide +kernel
theorem dX8_cell_242 : decode cX8_cell 242 = .ok (.isub, 1) := by decide +kernel
theorem dX8_cell_243 : decode cX8_cell 243 = .ok (.istore 10, 2) := by decide +kernel
theorem dX8_cell_245 : decode cX8_cell 245 = .ok (.iload 6, 2) := by decide +kernel
theorem dX8_cell_247 : decode cX8_cell 247 = .ok (.ifCond .eq 18, 3) := by decide +kernel
theorem dX8_cell_250 : decode cX8_cell 250 = .ok (.iload 7, 2) := by decide +kernel
theorem dX8_cell_252 : decode cX8_cell 252 = .ok (.ifCond .eq 13, 3) := by decide +kernel
theorem dX8_cell_255 : decode cX8_cell 255 = .ok (.iload 4, 2) := by decide +kernel
theorem dX8_cell_257 : decode cX8_cell 257 = .ok (.iconst 1, 1) := by decide +kernel
theorem dX8_cell_258 : decode cX8_cell 258 = .ok (.isub, 1) := by decide +kernel
theorem dX8_cell_259 : decode cX8_cell 259 = .ok (.iload 9, 2) := by decide +kernel
theorem dX8_cell_261 : decode cX8_cell 261 = .ok (.isub, 1) := by decide +kernel
theorem dX8_cell_262 : decode cX8_cell 262 = .ok (.goto 20, 3) := by decide +kernel
theorem dX8_cell_265 : decode cX8_cell 265 = .ok (.iload 6, 2) := by decide +kernel
theorem dX8_cell_267 : decode cX8_cell 267 = .ok (.ifCond .eq 13, 3) := by decide +kernel
theorem dX8_cell_270 : decode cX8_cell 270 = .ok (.iload 4, 2) := by decide +kernel
theorem dX8_cell_272 : decode cX8_cell 272 = .ok (.iconst 1, 1) := by decide +kernel
theorem dX8_cell_273 : decode cX8_cell 273 = .ok (.isub, 1) := by decide +kernel
theorem dX8_cell_274 : decode cX8_cell 274 = .ok (.iload 8, 2) := by decide +kernel
theorem dX8_cell_276 : decode cX8_cell 276 = .ok (.isub, 1) := by decide +kernel
theorem dX8_cell_277 : decode cX8_cell 277 = .ok (.goto 5, 3) := by decide +kernel
theorem dX8_cell_280 : decode cX8_cell 280 = .ok (.iload 8, 2) := by decide +kernel
theorem dX8_cell_282 : decode cX8_cell 282 = .ok (.istore 11, 2) := by decide +kernel
theorem dX8_cell_284 : decode cX8_cell 284 = .ok (.aload_n 0, 1) := by decide +kernel
theorem dX8_cell_285 : decode cX8_cell 285 = .ok (.getfield 19, 3) := by decide +kernel
theorem dX8_cell_288 : decode cX8_cell 288 = .ok (.bipush 25, 2) := by decide +kernel
theorem dX8_cell_290 : decode cX8_cell 290 = .ok (.iload_n 1, 1) := by decide +kernel
theorem dX8_cell_291 : decode cX8_cell 291 = .ok (.imul, 1) := by decide +kernel
theorem dX8_cell_292 : decode cX8_cell 292 = .ok (.iconst 5, 1) := by decide +kernel
theorem dX8_cell_293 : decode cX8_cell 293 = .ok (.iload 11, 2) := by decide +kernel
theorem dX8_cell_295 : decode cX8_cell 295 = .ok (.imul, 1) := by decide +kernel
theorem dX8_cell_296 : decode cX8_cell 296 = .ok (.iadd, 1) := by decide +kernel
theorem dX8_cell_297 : decode cX8_cell 297 = .ok (.iload 10, 2) := by decide +kernel
theorem dX8_cell_299 : decode cX8_cell 299 = .ok (.iadd, 1) := by decide +kernel
theorem dX8_cell_300 : decode cX8_cell 300 = .ok (.iaload, 1) := by decide +kernel
theorem dX8_cell_301 : decode cX8_cell 301 = .ok (.ireturn, 1) := by decide +kernel
theorem dX8_modulo_0 : decode cX8_modulo 0 = .ok (.iload_n 0, 1) := by decide +kernel
theorem dX8_modulo_1 : decode cX8_modulo 1 = .ok (.iload_n 1, 1) := by decide +kernel
theorem dX8_modulo_2 : decode cX8_modulo 2 = .ok (.irem, 1) := by decide +kernel
theorem dX8_modulo_3 : decode cX8_modulo 3 = .ok (.istore_n 2, 1) := by decide +kernel
theorem dX8_modulo_4 : decode cX8_modulo 4 = .ok (.iload_n 2, 1) := by decide +kernel
theorem dX8_modulo_5 : decode cX8_modulo 5 = .ok (.ifCond .ge 9, 3) := by decide +kernel
theorem dX8_modulo_8 : decode cX8_modulo 8 = .ok (.iload_n 2, 1) := by decide +kernel
theorem dX8_modulo_9 : decode cX8_modulo 9 = .ok (.iload_n 1, 1) := by decide +kernel
theorem dX8_modulo_10 : decode cX8_modulo 10 = .ok (.iadd, 1) := by decide +kernel
theorem dX8_modulo_11 : decode cX8_modulo 11 = .ok (.goto 4, 3) := by decide +kernel
theorem dX8_modulo_14 : decode cX8_modulo 14 = .ok (.iload_n 2, 1) := by decide +kernel
theorem dX8_modulo_15 : decode cX8_modulo 15 = .ok (.ireturn, 1) := by decide +kernel
theorem dX8_colourAt_0 : decode cX8_colourAt 0 = .ok (.aload_n 0, 1) := by decide +kernel
theorem dX8_colourAt_1 : decode cX8_colourAt 1 = .ok (.iload_n 1, 1) := by decide +kernel
theorem dX8_colourAt_2 : decode cX8_colourAt 2 = .ok (.iload_n 2, 1) := by decide +kernel
theorem dX8_colourAt_3 : decode cX8_colourAt 3 = .ok (.aload_n 0, 1) := by decide +kernel
theorem dX8_colourAt_4 : decode cX8_colourAt 4 = .ok (.iload_n 1, 1) := by decide +kernel
theorem dX8_colourAt_5 : decode cX8_colourAt 5 = .ok (.invokevirtual 91, 3) := by decide +kernel
theorem dX8_colourAt_8 : decode cX8_colourAt 8 = .ok (.invokestatic 95, 3) := by decide +kernel
theorem dX8_colourAt_11 : decode cX8_colourAt 11 = .ok (.iload_n 3, 1) := by decide +kernel
theorem dX8_colourAt_12 : decode cX8_colourAt 12 = .ok (.aload_n 0, 1) := by decide +kernel
theorem dX8_colourAt_13 : decode cX8_colourAt 13 = .ok (.iload_n 1, 1) := by decide +kernel
theorem dX8_colourAt_14 : decode cX8_colourAt 14 = .ok (.invokevirtual 99, 3) := by decide +kernel
theorem dX8_colourAt_17 : decode cX8_colourAt 17 = .ok (.invokestatic 95, 3) := by decide +kernel
theorem dX8_colourAt_20 : decode cX8_colourAt 20 = .ok (.invokevirtual 102, 3) := by decide +kernel
theorem dX8_colourAt_23 : decode cX8_colourAt 23 = .ok (.ireturn, 1) := by decide +kernel
theorem dX8_colour_0 : decode cX8_colour 0 = .ok (.aload_n 0, 1) := by decide +kernel
theorem dX8_colour_1 : decode cX8_colour 1 = .ok (.aload_n 0, 1) := by decide +kernel
theorem dX8_colour_2 : decode cX8_colour 2 = .ok (.iload_n 1, 1) := by decide +kernel
theorem dX8_colour_3 : decode cX8_colour 3 = .ok (.invokevirtual 88, 3) := by decide +kernel
theorem dX8_colour_6 : decode cX8_colour 6 = .ok (.ifCond .eq 7, 3) := by decide +kernel
theorem dX8_colour_9 : decode cX8_colour 9 = .ok (.iconst 0, 1) := by decide +kernel
theorem dX8_colour_10 : decode cX8_colour 10 = .ok (.goto 4, 3) := by decide +kernel
theorem dX8_colour_13 : decode cX8_colour 13 = .ok (.iconst 1, 1) := by decide +kernel
theorem dX8_colour_14 : decode cX8_colour 14 = .ok (.invokevirtual 84, 3) := by decide +kernel
theorem dX8_colour_17 : decode cX8_colour 17 = .ok (.ifCond .eq 7, 3) := by decide +kernel
theorem dX8_colour_20 : decode cX8_colour 20 = .ok (.iconst 0, 1) := by decide +kernel
theorem dX8_colour_21 : decode cX8_colour 21 = .ok (.goto 10, 3) := by decide +kernel
theorem dX8_colour_24 : decode cX8_colour 24 = .ok (.aload_n 0, 1) := by decide +kernel
theorem dX8_colour_25 : decode cX8_colour 25 = .ok (.iload_n 1, 1) := by decide +kernel
theorem dX8_colour_26 : decode cX8_colour 26 = .ok (.iload_n 2, 1) := by decide +kernel
theorem dX8_colour_27 : decode cX8_colour 27 = .ok (.iload_n 3, 1) := by decide +kernel
theorem dX8_colour_28 : decode cX8_colour 28 = .ok (.invokevirtual 106, 3) := by decide +kernel
theorem dX8_colour_31 : decode cX8_colour 31 = .ok (.ireturn, 1) := by decide +kernel
theorem dX8_repeat_0 : decode cX8_repeat 0 = .ok (.aload_n 0, 1) := by decide +kernel
theorem dX8_repeat_1 : decode cX8_repeat 1 = .ok (.aload_n 0, 1) := by decide +kernel
theorem dX8_repeat_2 : decode cX8_repeat 2 = .ok (.iload_n 1, 1) := by decide +kernel
theorem dX8_repeat_3 : decode cX8_repeat 3 = .ok (.invokevirtual 88, 3) := by decide +kernel
theorem dX8_repeat_6 : decode cX8_repeat 6 = .ok (.ifCond .eq 7, 3) := by decide +kernel
theorem dX8_repeat_9 : decode cX8_repeat 9 = .ok (.iconst 0, 1) := by decide +kernel
theorem dX8_repeat_10 : decode cX8_repeat 10 = .ok (.goto 4, 3) := by decide +kernel
theorem dX8_repeat_13 : decode cX8_repeat 13 = .ok (.iconst 1, 1) := by decide +kernel
theorem dX8_repeat_14 : decode cX8_repeat 14 = .ok (.invokevirtual 84, 3) := by decide +kernel
theorem dX8_repeat_17 : decode cX8_repeat 17 = .ok (.ifCond .eq 7, 3) := by decide +kernel
theorem dX8_repeat_20 : decode cX8_repeat 20 = .ok (.iconst 0, 1) := by decide +kernel
theorem dX8_repeat_21 : decode cX8_repeat 21 = .ok (.goto 20, 3) := by decide +kernel
theorem dX8_repeat_24 : decode cX8_repeat 24 = .ok (.iload_n 2, 1) := by decide +kernel
theorem dX8_repeat_25 : decode cX8_repeat 25 = .ok (.ifCond .eq 11, 3) := by decide +kernel
theorem dX8_repeat_28 : decode cX8_repeat 28 = .ok (.aload_n 0, 1) := by decide +kernel
theorem dX8_repeat_29 : decode cX8_repeat 29 = .ok (.iload_n 1, 1) := by decide +kernel
theorem dX8_repeat_30 : decode cX8_repeat 30 = .ok (.invokevirtual 99, 3) := by decide +kernel
theorem dX8_repeat_33 : decode cX8_repeat 33 = .ok (.goto 8, 3) := by decide +kernel
theorem dX8_repeat_36 : decode cX8_repeat 36 = .ok (.aload_n 0, 1) := by decide +kernel
theorem dX8_repeat_37 : decode cX8_repeat 37 = .ok (.iload_n 1, 1) := by decide +kernel
theorem dX8_repeat_38 : decode cX8_repeat 38 = .ok (.invokevirtual 91, 3) := by decide +kernel
theorem dX8_repeat_41 : decode cX8_repeat 41 = .ok (.ireturn, 1) := by decide +kernel
theorem dX8_repeatAnew_0 : decode cX8_repeatAnew 0 = .ok (.aload_n 0, 1) := by decide +kernel
theorem dX8_repeatAnew_1 : decode cX8_repeatAnew 1 = .ok (.aload_n 0, 1) := by decide +kernel
theorem dX8_repeatAnew_2 : decode cX8_repeatAnew 2 = .ok (.iload_n 1, 1) := by decide +kernel
theorem dX8_repeatAnew_3 : decode cX8_repeatAnew 3 = .ok (.invokevirtual 88, 3) := by decide +kernel
theorem dX8_repeatAnew_6 : decode cX8_repeatAnew 6 = .ok (.ifCond .eq 7, 3) := by decide +kernel
theorem dX8_repeatAnew_9 : decode cX8_repeatAnew 9 = .ok (.iconst 0, 1) := by decide +kernel
theorem dX8_repeatAnew_10 : decode cX8_repeatAnew 10 = .ok (.goto 4, 3) := by decide +kernel
theorem dX8_repeatAnew_13 : decode cX8_repeatAnew 13 = .ok (.iconst 1, 1) := by decide +kernel
theorem dX8_repeatAnew_14 : decode cX8_repeatAnew 14 = .ok (.invokevirtual 84, 3) := by decide +kernel
theorem dX8_repeatAnew_17 : decode cX8_repeatAnew 17 = .ok (.ifCond .eq 5, 3) := by decide +kernel
theorem dX8_repeatAnew_20 : decode cX8_repeatAnew 20 = .ok (.iconst 0, 1) := by decide +kernel
theorem dX8_repeatAnew_21 : decode cX8_repeatAnew 21 = .ok (.ireturn, 1) := by decide +kernel
theorem dX8_repeatAnew_22 : decode cX8_repeatAnew 22 = .ok (.iconst 1, 1) := by decide +kernel
theorem dX8_repeatAnew_23 : decode cX8_repeatAnew 23 = .ok (.istore_n 3, 1) := by decide +kernel
theorem dX8_repeatAnew_24 : decode cX8_repeatAnew 24 = .ok (.aload_n 0, 1) := by decide +kernel
theorem dX8_repeatAnew_25 : decode cX8_repeatAnew 25 = .ok (.iload_n 1, 1) := by decide +kernel
theorem dX8_repeatAnew_26 : decode cX8_repeatAnew 26 = .ok (.iload_n 2, 1) := by decide +kernel
theorem dX8_repeatAnew_27 : decode cX8_repeatAnew 27 = .ok (.ifCond .eq 7, 3) := by decide +kernel
theorem dX8_repeatAnew_30 : decode cX8_repeatAnew 30 = .ok (.iconst 0, 1) := by decide +kernel
theorem dX8_repeatAnew_31 : decode cX8_repeatAnew 31 = .ok (.goto 4, 3) := by decide +kernel
theorem dX8_repeatAnew_34 : decode cX8_repeatAnew 34 = .ok (.iload_n 3, 1) := by decide +kernel
theorem dX8_repeatAnew_35 : decode cX8_repeatAnew 35 = .ok (.iload_n 2, 1) := by decide +kernel
theorem dX8_repeatAnew_36 : decode cX8_repeatAnew 36 = .ok (.ifCond .eq 7, 3) := by decide +kernel
theorem dX8_repeatAnew_39 : decode cX8_repeatAnew 39 = .ok (.iload_n 3, 1) := by decide +kernel
theorem dX8_repeatAnew_40 : decode cX8_repeatAnew 40 = .ok (.goto 4, 3) := by decide +kernel
theorem dX8_repeatAnew_43 : decode cX8_repeatAnew 43 = .ok (.iconst 0, 1) := by decide +kernel
theorem dX8_repeatAnew_44 : decode cX8_repeatAnew 44 = .ok (.invokevirtual 109, 3) := by decide +kernel
theorem dX8_repeatAnew_47 : decode cX8_repeatAnew 47 = .ok (.ifCond .ne 9, 3) := by decide +kernel
theorem dX8_repeatAnew_50 : decode cX8_repeatAnew 50 = .ok (.iinc 3 1, 3) := by decide +kernel
theorem dX8_repeatAnew_53 : decode cX8_repeatAnew 53 = .ok (.goto (-29), 3) := by decide +kernel
theorem dX8_repeatAnew_56 : decode cX8_repeatAnew 56 = .ok (.iload_n 3, 1) := by decide +kernel
theorem dX8_repeatAnew_57 : decode cX8_repeatAnew 57 = .ok (.ireturn, 1) := by decide +kernel
theorem dX8_holds_0 : decode cX8_holds 0 = .ok (.iconst 1, 1) := by decide +kernel
theorem dX8_holds_1 : decode cX8_holds 1 = .ok (.istore 4, 2) := by decide +kernel
theorem dX8_holds_3 : decode cX8_holds 3 = .ok (.iconst 0, 1) := by decide +kernel
theorem dX8_holds_4 : decode cX8_holds 4 = .ok (.istore 5, 2) := by decide +kernel
theorem dX8_holds_6 : decode cX8_holds 6 = .ok (.iload 5, 2) := by decide +kernel
theorem dX8_holds_8 : decode cX8_holds 8 = .ok (.aload_n 0, 1) := by decide +kernel
theorem dX8_holds_9 : decode cX8_holds 9 = .ok (.iload_n 1, 1) := by decide +kernel
theorem dX8_holds_10 : decode cX8_holds 10 = .ok (.invokevirtual 91, 3) := by decide +kernel
theorem dX8_holds_13 : decode cX8_holds 13 = .ok (.if_icmp .ge 65, 3) := by decide +kernel
theorem dX8_holds_16 : decode cX8_holds 16 = .ok (.iconst 0, 1) := by decide +kernel
theorem dX8_holds_17 : decode cX8_holds 17 = .ok (.istore 6, 2) := by decide +kernel
theorem dX8_holds_19 : decode cX8_holds 19 = .ok (.iload 6, 2) := by decide +kernel
theorem dX8_holds_21 : decode cX8_holds 21 = .ok (.aload_n 0, 1) := by decide +kernel
theorem dX8_holds_22 : decode cX8_holds 22 = .ok (.iload_n 1, 1) := by decide +kernel
theorem dX8_holds_23 : decode cX8_holds 23 = .ok (.invokevirtual 99, 3) := by decide +kernel
theorem dX8_holds_26 : decode cX8_holds 26 = .ok (.if_icmp .ge 46, 3) := by decide +kernel
theorem dX8_holds_29 : decode cX8_holds 29 = .ok (.iload 4, 2) := by decide +kernel
theorem dX8_holds_31 : decode cX8_holds 31 = .ok (.ifCond .eq 32, 3) := by decide +kernel
theorem dX8_holds_34 : decode cX8_holds 34 = .ok (.aload_n 0, 1) := by decide +kernel
theorem dX8_holds_35 : decode cX8_holds 35 = .ok (.iload_n 1, 1) := by decide +kernel
theorem dX8_holds_36 : decode cX8_holds 36 = .ok (.iload 5, 2) := by decide +kernel
theorem dX8_holds_38 : decode cX8_holds 38 = .ok (.iload_n 2, 1) := by decide +kernel
theorem dX8_holds_39 : decode cX8_holds 39 = .ok (.iadd, 1) := by decide +kernel
theorem dX8_holds_40 : decode cX8_holds 40 = .ok (.iload 6, 2) := by decide +kernel
theorem dX8_holds_42 : decode cX8_holds 42 = .ok (.iload_n 3, 1) := by decide +kernel
theorem dX8_holds_43 : decode cX8_holds 43 = .ok (.iadd, 1) := by decide +kernel
theorem dX8_holds_44 : decode cX8_holds 44 = .ok (.invokevirtual 106, 3) := by decide +kernel
theorem dX8_holds_47 : decode cX8_holds 47 = .ok (.aload_n 0, 1) := by decide +kernel
theorem dX8_holds_48 : decode cX8_holds 48 = .ok (.iload_n 1, 1) := by decide +kernel
theorem dX8_holds_49 : decode cX8_holds 49 = .ok (.iload 5, 2) := by decide +kernel
theorem dX8_holds_51 : decode cX8_holds 51 = .ok (.iload 6, 2) := by decide +kernel
theorem dX8_holds_53 : decode cX8_holds 53 = .ok (.invokevirtual 102, 3) := by decide +kernel
theorem dX8_holds_56 : decode cX8_holds 56 = .ok (.if_icmp .ne 7, 3) := by decide +kernel
theorem dX8_holds_59 : decode cX8_holds 59 = .ok (.iconst 1, 1) := by decide +kernel
theorem dX8_holds_60 : decode cX8_holds 60 = .ok (.goto 4, 3) := by decide +kernel
theorem dX8_holds_63 : decode cX8_holds 63 = .ok (.iconst 0, 1) := by decide +kernel
theorem dX8_holds_64 : decode cX8_holds 64 = .ok (.istore 4, 2) := by decide +kernel
theorem dX8_holds_66 : decode cX8_holds 66 = .ok (.iinc 6 1, 3) := by decide +kernel
theorem dX8_holds_69 : decode cX8_holds 69 = .ok (.goto (-50), 3) := by decide +kernel
theorem dX8_holds_72 : decode cX8_holds 72 = .ok (.iinc 5 1, 3) := by decide +kernel
theorem dX8_holds_75 : decode cX8_holds 75 = .ok (.goto (-69), 3) := by decide +kernel
theorem dX8_holds_78 : decode cX8_holds 78 = .ok (.iload 4, 2) := by decide +kernel
theorem dX8_holds_80 : decode cX8_holds 80 = .ok (.ireturn, 1) := by decide +kernel
theorem dX8_roller_0 : decode cX8_roller 0 = .ok (.aload_n 0, 1) := by decide +kernel
theorem dX8_roller_1 : decode cX8_roller 1 = .ok (.iload_n 1, 1) := by decide +kernel
theorem dX8_roller_2 : decode cX8_roller 2 = .ok (.invokevirtual 88, 3) := by decide +kernel
theorem dX8_roller_5 : decode cX8_roller 5 = .ok (.istore_n 3, 1) := by decide +kernel
theorem dX8_roller_6 : decode cX8_roller 6 = .ok (.iload_n 2, 1) := by decide +kernel
theorem dX8_roller_7 : decode cX8_roller 7 = .ok (.iconst 1, 1) := by decide +kernel
theorem dX8_roller_8 : decode cX8_roller 8 = .ok (.bipush 60, 2) := by decide +kernel
theorem dX8_roller_10 : decode cX8_roller 10 = .ok (.invokestatic 80, 3) := by decide +kernel
theorem dX8_roller_13 : decode cX8_roller 13 = .ok (.istore 4, 2) := by decide +kernel
theorem dX8_roller_15 : decode cX8_roller 15 = .ok (.aload_n 0, 1) := by decide +kernel
theorem dX8_roller_16 : decode cX8_roller 16 = .ok (.iload_n 3, 1) := by decide +kernel
theorem dX8_roller_17 : decode cX8_roller 17 = .ok (.ifCond .ne 7, 3) := by decide +kernel
theorem dX8_roller_20 : decode cX8_roller 20 = .ok (.iconst 1, 1) := by decide +kernel
theorem dX8_roller_21 : decode cX8_roller 21 = .ok (.goto 36, 3) := by decide +kernel
theorem dX8_roller_24 : decode cX8_roller 24 = .ok (.iload 4, 2) := by decide +kernel
theorem dX8_roller_26 : decode cX8_roller 26 = .ok (.ifCond .ne 7, 3) := by decide +kernel
theorem dX8_roller_29 : decode cX8_roller 29 = .ok (.iconst 2, 1) := by decide +kernel
theorem dX8_roller_30 : decode cX8_roller 30 = .ok (.goto 27, 3) := by decide +kernel
theorem dX8_roller_33 : decode cX8_roller 33 = .ok (.iload_n 2, 1) := by decide +kernel
theorem dX8_roller_34 : decode cX8_roller 34 = .ok (.aload_n 0, 1) := by decide +kernel
theorem dX8_roller_35 : decode cX8_roller 35 = .ok (.iload_n 1, 1) := by decide +kernel
theorem dX8_roller_36 : decode cX8_roller 36 = .ok (.invokevirtual 99, 3) := by decide +kernel
theorem dX8_roller_39 : decode cX8_roller 39 = .ok (.irem, 1) := by decide +kernel
theorem dX8_roller_40 : decode cX8_roller 40 = .ok (.ifCond .ne 12, 3) := by decide +kernel
theorem dX8_roller_43 : decode cX8_roller 43 = .ok (.aload_n 0, 1) := by decide +kernel
theorem dX8_roller_44 : decode cX8_roller 44 = .ok (.getfield 112, 3) := by decide +kernel
theorem dX8_roller_47 : decode cX8_roller 47 = .ok (.bipush 8, 2) := by decide +kernel
theorem dX8_roller_49 : decode cX8_roller 49 = .ok (.if_icmp .ne 7, 3) := by decide +kernel
theorem dX8_roller_52 : decode cX8_roller 52 = .ok (.iconst 3, 1) := by decide +kernel
theorem dX8_roller_53 : decode cX8_roller 53 = .ok (.goto 4, 3) := by decide +kernel
theorem dX8_roller_56 : decode cX8_roller 56 = .ok (.iconst 0, 1) := by decide +kernel
theorem dX8_roller_57 : decode cX8_roller 57 = .ok (.invokevirtual 84, 3) := by decide +kernel
theorem dX8_roller_60 : decode cX8_roller 60 = .ok (.ifCond .eq 5, 3) := by decide +kernel
theorem dX8_roller_63 : decode cX8_roller 63 = .ok (.iconst 0, 1) := by decide +kernel
theorem dX8_roller_64 : decode cX8_roller 64 = .ok (.ireturn, 1) := by decide +kernel
theorem dX8_roller_65 : decode cX8_roller 65 = .ok (.aload_n 0, 1) := by decide +kernel
theorem dX8_roller_66 : decode cX8_roller 66 = .ok (.getfield 112, 3) := by decide +kernel
theorem dX8_roller_69 : decode cX8_roller 69 = .ok (.istore 5, 2) := by decide +kernel
theorem dX8_roller_71 : decode cX8_roller 71 = .ok (.aload_n 0, 1) := by decide +kernel
theorem dX8_roller_72 : decode cX8_roller 72 = .ok (.dup, 1) := by decide +kernel
theorem dX8_roller_73 : decode cX8_roller 73 = .ok (.getfield 112, 3) := by decide +kernel
theorem dX8_roller_76 : decode cX8_roller 76 = .ok (.iconst 1, 1) := by decide +kernel
theorem dX8_roller_77 : decode cX8_roller 77 = .ok (.iadd, 1) := by decide +kernel
theorem dX8_roller_78 : decode cX8_roller 78 = .ok (.putfield 112, 3) := by decide +kernel
theorem dX8_roller_81 : decode cX8_roller 81 = .ok (.aload_n 0, 1) := by decide +kernel
theorem dX8_roller_82 : decode cX8_roller 82 = .ok (.getfield 22, 3) := by decide +kernel
theorem dX8_roller_85 : decode cX8_roller 85 = .ok (.iload 5, 2) := by decide +kernel
theorem dX8_roller_87 : decode cX8_roller 87 = .ok (.iload_n 1, 1) := by decide +kernel
theorem dX8_roller_88 : decode cX8_roller 88 = .ok (.iastore, 1) := by decide +kernel
theorem dX8_roller_89 : decode cX8_roller 89 = .ok (.aload_n 0, 1) := by decide +kernel
theorem dX8_roller_90 : decode cX8_roller 90 = .ok (.getfield 25, 3) := by decide +kernel
theorem dX8_roller_93 : decode cX8_roller 93 = .ok (.iload 5, 2) := by decide +kernel
theorem dX8_roller_95 : decode cX8_roller 95 = .ok (.iload_n 2, 1) := by decide +kernel
theorem dX8_roller_96 : decode cX8_roller 96 = .ok (.iastore, 1) := by decide +kernel
theorem dX8_roller_97 : decode cX8_roller 97 = .ok (.iconst 0, 1) := by decide +kernel
theorem dX8_roller_98 : decode cX8_roller 98 = .ok (.istore 6, 2) := by decide +kernel
theorem dX8_roller_100 : decode cX8_roller 100 = .ok (.iload 6, 2) := by decide +kernel
theorem dX8_roller_102 : decode cX8_roller 102 = .ok (.bipush 100, 2) := by decide +kernel
theorem dX8_roller_104 : decode cX8_roller 104 = .ok (.if_icmp .ge 37, 3) := by decide +kernel
theorem dX8_roller_107 : decode cX8_roller 107 = .ok (.aload_n 0, 1) := by decide +kernel
theorem dX8_roller_108 : decode cX8_roller 108 = .ok (.getfield 28, 3) := by decide +kernel
theorem dX8_roller_111 : decode cX8_roller 111 = .ok (.bipush 100, 2) := by decide +kernel
theorem dX8_roller_113 : decode cX8_roller 113 = .ok (.iload 5, 2) := by decide +kernel
theorem dX8_roller_115 : decode cX8_roller 115 = .ok (.imul, 1) := by decide +kernel
theorem dX8_roller_116 : decode cX8_roller 116 = .ok (.iload 6, 2) := by decide +kernel
theorem dX8_roller_118 : decode cX8_roller 118 = .ok (.iadd, 1) := by decide +kernel
theorem dX8_roller_119 : decode cX8_roller 119 = .ok (.aload_n 0, 1) := by decide +kernel
theorem dX8_roller_120 : decode cX8_roller 120 = .ok (.iload_n 1, 1) := by decide +kernel
theorem dX8_roller_121 : decode cX8_roller 121 = .ok (.iload 6, 2) := by decide +kernel
theorem dX8_roller_123 : decode cX8_roller 123 = .ok (.bipush 10, 2) := by decide +kernel
theorem dX8_roller_125 : decode cX8_roller 125 = .ok (.irem, 1) := by decide +kernel
theorem dX8_roller_126 : decode cX8_roller 126 = .ok (.iload 6, 2) := by decide +kernel
theorem dX8_roller_128 : decode cX8_roller 128 = .ok (.bipush 10, 2) := by decide +kernel
theorem dX8_roller_130 : decode cX8_roller 130 = .ok (.idiv, 1) := by decide +kernel
theorem dX8_roller_131 : decode cX8_roller 131 = .ok (.invokevirtual 106, 3) := by decide +kernel
theorem dX8_roller_134 : decode cX8_roller 134 = .ok (.iastore, 1) := by decide +kernel
theorem dX8_roller_135 : decode cX8_roller 135 = .ok (.iinc 6 1, 3) := by decide +kernel
theorem dX8_roller_138 : decode cX8_roller 138 = .ok (.goto (-38), 3) := by decide +kernel
theorem dX8_roller_141 : decode cX8_roller 141 = .ok (.iload 5, 2) := by decide +kernel
theorem dX8_roller_143 : decode cX8_roller 143 = .ok (.ireturn, 1) := by decide +kernel
theorem dX8_lot_0 : decode cX8_lot 0 = .ok (.iload_n 2, 1) := by decide +kernel
theorem dX8_lot_1 : decode cX8_lot 1 = .ok (.iconst 0, 1) := by decide +kernel
theorem dX8_lot_2 : decode cX8_lot 2 = .ok (.bipush 9, 2) := by decide +kernel
theorem dX8_lot_4 : decode cX8_lot 4 = .ok (.invokestatic 80, 3) := by decide +kernel
theorem dX8_lot_7 : decode cX8_lot 7 = .ok (.ifCond .eq 29, 3) := by decide +kernel
theorem dX8_lot_10 : decode cX8_lot 10 = .ok (.iload_n 3, 1) := by decide +kernel
theorem dX8_lot_11 : decode cX8_lot 11 = .ok (.iconst 1, 1) := by decide +kernel
theorem dX8_lot_12 : decode cX8_lot 12 = .ok (.bipush 20, 2) := by decide +kernel
theorem dX8_lot_14 : decode cX8_lot 14 = .ok (.invokestatic 80, 3) := by decide +kernel
theorem dX8_lot_17 : decode cX8_lot 17 = .ok (.ifCond .eq 19, 3) := by decide +kernel
theorem dX8_lot_20 : decode cX8_lot 20 = .ok (.iload 4, 2) := by decide +kernel
theorem dX8_lot_22 : decode cX8_lot 22 = .ok (.iconst 1, 1) := by decide +kernel
theorem dX8_lot_23 : decode cX8_lot 23 = .ok (.sipush 200, 3) := by decide +kernel
theorem dX8_lot_26 : decode cX8_lot 26 = .ok (.invokestatic 80, 3) := by decide +kernel
theorem dX8_lot_29 : decode cX8_lot 29 = .ok (.ifCond .eq 7, 3) := by decide +kernel
theorem dX8_lot_32 : decode cX8_lot 32 = .ok (.iconst 1, 1) := by decide +kernel
theorem dX8_lot_33 : decode cX8_lot 33 = .ok (.goto 4, 3) := by decide +kernel
theorem dX8_lot_36 : decode cX8_lot 36 = .ok (.iconst 0, 1) := by decide +kernel
theorem dX8_lot_37 : decode cX8_lot 37 = .ok (.istore 5, 2) := by decide +kernel
theorem dX8_lot_39 : decode cX8_lot 39 = .ok (.aload_n 0, 1) := by decide +kernel
theorem dX8_lot_40 : decode cX8_lot 40 = .ok (.iload_n 1, 1) := by decide +kernel
theorem dX8_lot_41 : decode cX8_lot 41 = .ok (.iconst 0, 1) := by decide +kernel
theorem dX8_lot_42 : decode cX8_lot 42 = .ok (.aload_n 0, 1) := by decide +kernel
theorem dX8_lot_43 : decode cX8_lot 43 = .ok (.getfield 112, 3) := by decide +kernel
theorem dX8_lot_46 : decode cX8_lot 46 = .ok (.iconst 1, 1) := by decide +kernel
theorem dX8_lot_47 : decode cX8_lot 47 = .ok (.isub, 1) := by decide +kernel
theorem dX8_lot_48 : decode cX8_lot 48 = .ok (.invokestatic 80, 3) := by decide +kernel
theorem dX8_lot_51 : decode cX8_lot 51 = .ok (.ifCond .ne 7, 3) := by decide +kernel
theorem dX8_lot_54 : decode cX8_lot 54 = .ok (.iconst 1, 1) := by decide +kernel
theorem dX8_lot_55 : decode cX8_lot 55 = .ok (.goto 26, 3) := by decide +kernel
theorem dX8_lot_58 : decode cX8_lot 58 = .ok (.iload 5, 2) := by decide +kernel
theorem dX8_lot_60 : decode cX8_lot 60 = .ok (.ifCond .ne 7, 3) := by decide +kernel
theorem dX8_lot_63 : decode cX8_lot 63 = .ok (.iconst 2, 1) := by decide +kernel
theorem dX8_lot_64 : decode cX8_lot 64 = .ok (.goto 17, 3) := by decide +kernel
theorem dX8_lot_67 : decode cX8_lot 67 = .ok (.aload_n 0, 1) := by decide +kernel
theorem dX8_lot_68 : decode cX8_lot 68 = .ok (.getfield 115, 3) := by decide +kernel
theorem dX8_lot_71 : decode cX8_lot 71 = .ok (.bipush 10, 2) := by decide +kernel
theorem dX8_lot_73 : decode cX8_lot 73 = .ok (.if_icmp .ne 7, 3) := by decide +kernel
theorem dX8_lot_76 : decode cX8_lot 76 = .ok (.iconst 3, 1) := by decide +kernel
theorem dX8_lot_77 : decode cX8_lot 77 = .ok (.goto 4, 3) := by decide +kernel
theorem dX8_lot_80 : decode cX8_lot 80 = .ok (.iconst 0, 1) := by decide +kernel
theorem dX8_lot_81 : decode cX8_lot 81 = .ok (.invokevirtual 84, 3) := by decide +kernel
theorem dX8_lot_84 : decode cX8_lot 84 = .ok (.ifCond .eq 5, 3) := by decide +kernel
theorem dX8_lot_87 : decode cX8_lot 87 = .ok (.iconst 0, 1) := by decide +kernel
theorem dX8_lot_88 : decode cX8_lot 88 = .ok (.ireturn, 1) := by decide +kernel
theorem dX8_lot_89 : decode cX8_lot 89 = .ok (.aload_n 0, 1) := by decide +kernel
theorem dX8_lot_90 : decode cX8_lot 90 = .ok (.getfield 115, 3) := by decide +kernel
theorem dX8_lot_93 : decode cX8_lot 93 = .ok (.istore 6, 2) := by decide +kernel
theorem dX8_lot_95 : decode cX8_lot 95 = .ok (.aload_n 0, 1) := by decide +kernel
theorem dX8_lot_96 : decode cX8_lot 96 = .ok (.dup, 1) := by decide +kernel
theorem dX8_lot_97 : decode cX8_lot 97 = .ok (.getfield 115, 3) := by decide +kernel
theorem dX8_lot_100 : decode cX8_lot 100 = .ok (.iconst 1, 1) := by decide +kernel
theorem dX8_lot_101 : decode cX8_lot 101 = .ok (.iadd, 1) := by decide +kernel
theorem dX8_lot_102 : decode cX8_lot 102 = .ok (.putfield 115, 3) := by decide +kernel
theorem dX8_lot_105 : decode cX8_lot 105 = .ok (.aload_n 0, 1) := by decide +kernel
theorem dX8_lot_106 : decode cX8_lot 106 = .ok (.getfield 31, 3) := by decide +kernel
theorem dX8_lot_109 : decode cX8_lot 109 = .ok (.iload 6, 2) := by decide +kernel
theorem dX8_lot_111 : decode cX8_lot 111 = .ok (.iload_n 1, 1) := by decide +kernel
theorem dX8_lot_112 : decode cX8_lot 112 = .ok (.iastore, 1) := by decide +kernel
theorem dX8_lot_113 : decode cX8_lot 113 = .ok (.aload_n 0, 1) := by decide +kernel
theorem dX8_lot_114 : decode cX8_lot 114 = .ok (.getfield 34, 3) := by decide +kernel
theorem dX8_lot_117 : decode cX8_lot 117 = .ok (.iload 6, 2) := by decide +kernel
theorem dX8_lot_119 : decode cX8_lot 119 = .ok (.iload_n 2, 1) := by decide +kernel
theorem dX8_lot_120 : decode cX8_lot 120 = .ok (.iastore, 1) := by decide +kernel
theorem dX8_lot_121 : decode cX8_lot 121 = .ok (.aload_n 0, 1) := by decide +kernel
theorem dX8_lot_122 : decode cX8_lot 122 = .ok (.getfield 37, 3) := by decide +kernel
theorem dX8_lot_125 : decode cX8_lot 125 = .ok (.iload 6, 2) := by decide +kernel
theorem dX8_lot_127 : decode cX8_lot 127 = .ok (.iload_n 3, 1) := by decide +kernel
theorem dX8_lot_128 : decode cX8_lot 128 = .ok (.iastore, 1) := by decide +kernel
theorem dX8_lot_129 : decode cX8_lot 129 = .ok (.aload_n 0, 1) := by decide +kernel
theorem dX8_lot_130 : decode cX8_lot 130 = .ok (.getfield 40, 3) := by decide +kernel
theorem dX8_lot_133 : decode cX8_lot 133 = .ok (.iload 6, 2) := by decide +kernel
theorem dX8_lot_135 : decode cX8_lot 135 = .ok (.iload 4, 2) := by decide +kernel
theorem dX8_lot_137 : decode cX8_lot 137 = .ok (.iastore, 1) := by decide +kernel
theorem dX8_lot_138 : decode cX8_lot 138 = .ok (.iload 6, 2) := by decide +kernel
theorem dX8_lot_140 : decode cX8_lot 140 = .ok (.ireturn, 1) := by decide +kernel
theorem dX8_lotOf_0 : decode cX8_lotOf 0 = .ok (.aload_n 0, 1) := by decide +kernel
theorem dX8_lotOf_1 : decode cX8_lotOf 1 = .ok (.iload_n 1, 1) := by decide +kernel
theorem dX8_lotOf_2 : decode cX8_lotOf 2 = .ok (.iconst 0, 1) := by decide +kernel
theorem dX8_lotOf_3 : decode cX8_lotOf 3 = .ok (.aload_n 0, 1) := by decide +kernel
theorem dX8_lotOf_4 : decode cX8_lotOf 4 = .ok (.getfield 115, 3) := by decide +kernel
theorem dX8_lotOf_7 : decode cX8_lotOf 7 = .ok (.iconst 1, 1) := by decide +kernel
theorem dX8_lotOf_8 : decode cX8_lotOf 8 = .ok (.isub, 1) := by decide +kernel
theorem dX8_lotOf_9 : decode cX8_lotOf 9 = .ok (.invokestatic 80, 3) := by decide +kernel
theorem dX8_lotOf_12 : decode cX8_lotOf 12 = .ok (.ifCond .ne 7, 3) := by decide +kernel
theorem dX8_lotOf_15 : decode cX8_lotOf 15 = .ok (.iconst 1, 1) := by decide +kernel
theorem dX8_lotOf_16 : decode cX8_lotOf 16 = .ok (.goto 17, 3) := by decide +kernel
theorem dX8_lotOf_19 : decode cX8_lotOf 19 = .ok (.iload_n 2, 1) := by decide +kernel
theorem dX8_lotOf_20 : decode cX8_lotOf 20 = .ok (.iconst 0, 1) := by decide +kernel
theorem dX8_lotOf_21 : decode cX8_lotOf 21 = .ok (.iconst 4, 1) := by decide +kernel
theorem dX8_lotOf_22 : decode cX8_lotOf 22 = .ok (.invokestatic 80, 3) := by decide +kernel
theorem dX8_lotOf_25 : decode cX8_lotOf 25 = .ok (.ifCond .ne 7, 3) := by decide +kernel
theorem dX8_lotOf_28 : decode cX8_lotOf 28 = .ok (.iconst 2, 1) := by decide +kernel
theorem dX8_lotOf_29 : decode cX8_lotOf 29 = .ok (.goto 4, 3) := by decide +kernel
theorem dX8_lotOf_32 : decode cX8_lotOf 32 = .ok (.iconst 0, 1) := by decide +kernel
theorem dX8_lotOf_33 : decode cX8_lotOf 33 = .ok (.invokevirtual 84, 3) := by decide +kernel
theorem dX8_lotOf_36 : decode cX8_lotOf 36 = .ok (.ifCond .eq 5, 3) := by decide +kernel
theorem dX8_lotOf_39 : decode cX8_lotOf 39 = .ok (.iconst 0, 1) := by decide +kernel
theorem dX8_lotOf_40 : decode cX8_lotOf 40 = .ok (.ireturn, 1) := by decide +kernel
theorem dX8_lotOf_41 : decode cX8_lotOf 41 = .ok (.iload_n 2, 1) := by decide +kernel
theorem dX8_lotOf_42 : decode cX8_lotOf 42 = .ok (.iconst 4, 1) := by decide +kernel
theorem dX8_lotOf_43 : decode cX8_lotOf 43 = .ok (.if_icmp .ge 51, 3) := by decide +kernel
theorem dX8_lotOf_46 : decode cX8_lotOf 46 = .ok (.iload_n 2, 1) := by decide +kernel
theorem dX8_lotOf_47 : decode cX8_lotOf 47 = .ok (.ifCond .ne 12, 3) := by decide +kernel
theorem dX8_lotOf_50 : decode cX8_lotOf 50 = .ok (.aload_n 0, 1) := by decide +kernel
theorem dX8_lotOf_51 : decode cX8_lotOf 51 = .ok (.getfield 31, 3) := by decide +kernel
theorem dX8_lotOf_54 : decode cX8_lotOf 54 = .ok (.iload_n 1, 1) := by decide +kernel
theorem dX8_lotOf_55 : decode cX8_lotOf 55 = .ok (.iaload, 1) := by decide +kernel
theorem dX8_lotOf_56 : decode cX8_lotOf 56 = .ok (.goto 37, 3) := by decide +kernel
theorem dX8_lotOf_59 : decode cX8_lotOf 59 = .ok (.iload_n 2, 1) := by decide +kernel
theorem dX8_lotOf_60 : decode cX8_lotOf 60 = .ok (.iconst 1, 1) := by decide +kernel
theorem dX8_lotOf_61 : decode cX8_lotOf 61 = .ok (.if_icmp .ne 12, 3) := by decide +kernel
theorem dX8_lotOf_64 : decode cX8_lotOf 64 = .ok (.aload_n 0, 1) := by decide +kernel
theorem dX8_lotOf_65 : decode cX8_lotOf 65 = .ok (.getfield 34, 3) := by decide +kernel
theorem dX8_lotOf_68 : decode cX8_lotOf 68 = .ok (.iload_n 1, 1) := by decide +kernel
theorem dX8_lotOf_69 : decode cX8_lotOf 69 = .ok (.iaload, 1) := by decide +kernel
theorem dX8_lotOf_70 : decode cX8_lotOf 70 = .ok (.goto 23, 3) := by decide +kernel
theorem dX8_lotOf_73 : decode cX8_lotOf 73 = .ok (.iload_n 2, 1) := by decide +kernel
theorem dX8_lotOf_74 : decode cX8_lotOf 74 = .ok (.iconst 2, 1) := by decide +kernel
theorem dX8_lotOf_75 : decode cX8_lotOf 75 = .ok (.if_icmp .ne 12, 3) := by decide +kernel
theorem dX8_lotOf_78 : decode cX8_lotOf 78 = .ok (.aload_n 0, 1) := by decide +kernel
theorem dX8_lotOf_79 : decode cX8_lotOf 79 = .ok (.getfield 37, 3) := by decide +kernel
theorem dX8_lotOf_82 : decode cX8_lotOf 82 = .ok (.iload_n 1, 1) := by decide +kernel
theorem dX8_lotOf_83 : decode cX8_lotOf 83 = .ok (.iaload, 1) := by decide +kernel
theorem dX8_lotOf_84 : decode cX8_lotOf 84 = .ok (.goto 9, 3) := by decide +kernel
theorem dX8_lotOf_87 : decode cX8_lotOf 87 = .ok (.aload_n 0, 1) := by decide +kernel
theorem dX8_lotOf_88 : decode cX8_lotOf 88 = .ok (.getfield 40, 3) := by decide +kernel
theorem dX8_lotOf_91 : decode cX8_lotOf 91 = .ok (.iload_n 1, 1) := by decide +kernel
theorem dX8_lotOf_92 : decode cX8_lotOf 92 = .ok (.iaload, 1) := by decide +kernel
theorem dX8_lotOf_93 : decode cX8_lotOf 93 = .ok (.ireturn, 1) := by decide +kernel
theorem dX8_lotOf_94 : decode cX8_lotOf 94 = .ok (.aload_n 0, 1) := by decide +kernel
theorem dX8_lotOf_95 : decode cX8_lotOf 95 = .ok (.getfield 25, 3) := by decide +kernel
theorem dX8_lotOf_98 : decode cX8_lotOf 98 = .ok (.aload_n 0, 1) := by decide +kernel
theorem dX8_lotOf_99 : decode cX8_lotOf 99 = .ok (.getfield 31, 3) := by decide +kernel
theorem dX8_lotOf_102 : decode cX8_lotOf 102 = .ok (.iload_n 1, 1) := by decide +kernel
theorem dX8_lotOf_103 : decode cX8_lotOf 103 = .ok (.iaload, 1) := by decide +kernel
theorem dX8_lotOf_104 : decode cX8_lotOf 104 = .ok (.iaload, 1) := by decide +kernel
theorem dX8_lotOf_105 : decode cX8_lotOf 105 = .ok (.istore_n 3, 1) := by decide +kernel
theorem dX8_lotOf_106 : decode cX8_lotOf 106 = .ok (.aload_n 0, 1) := by decide +kernel
theorem dX8_lotOf_107 : decode cX8_lotOf 107 = .ok (.getfield 40, 3) := by decide +kernel
theorem dX8_lotOf_110 : decode cX8_lotOf 110 = .ok (.iload_n 1, 1) := by decide +kernel
theorem dX8_lotOf_111 : decode cX8_lotOf 111 = .ok (.iaload, 1) := by decide +kernel
theorem dX8_lotOf_112 : decode cX8_lotOf 112 = .ok (.iload_n 3, 1) := by decide +kernel
theorem dX8_lotOf_113 : decode cX8_lotOf 113 = .ok (.iadd, 1) := by decide +kernel
theorem dX8_lotOf_114 : decode cX8_lotOf 114 = .ok (.iconst 1, 1) := by decide +kernel
theorem dX8_lotOf_115 : decode cX8_lotOf 115 = .ok (.isub, 1) := by decide +kernel
theorem dX8_lotOf_116 : decode cX8_lotOf 116 = .ok (.iload_n 3, 1) := by decide +kernel
theorem dX8_lotOf_117 : decode cX8_lotOf 117 = .ok (.idiv, 1) := by decide +kernel
theorem dX8_lotOf_118 : decode cX8_lotOf 118 = .ok (.ireturn, 1) := by decide +kernel
theorem dX8_rowsOfLot_0 : decode cX8_rowsOfLot 0 = .ok (.aload_n 0, 1) := by decide +kernel
theorem dX8_rowsOfLot_1 : decode cX8_rowsOfLot 1 = .ok (.aload_n 0, 1) := by decide +kernel
theorem dX8_rowsOfLot_2 : decode cX8_rowsOfLot 2 = .ok (.getfield 22, 3) := by decide +kernel
theorem dX8_rowsOfLot_5 : decode cX8_rowsOfLot 5 = .ok (.aload_n 0, 1) := by decide +kernel
theorem dX8_rowsOfLot_6 : decode cX8_rowsOfLot 6 = .ok (.getfield 31, 3) := by decide +kernel
theorem dX8_rowsOfLot_9 : decode cX8_rowsOfLot 9 = .ok (.iload_n 1, 1) := by decide +kernel
theorem dX8_rowsOfLot_10 : decode cX8_rowsOfLot 10 = .ok (.iaload, 1) := by decide +kernel
theorem dX8_rowsOfLot_11 : decode cX8_rowsOfLot 11 = .ok (.iaload, 1) := by decide +kernel
theorem dX8_rowsOfLot_12 : decode cX8_rowsOfLot 12 = .ok (.invokevirtual 99, 3) := by decide +kernel
theorem dX8_rowsOfLot_15 : decode cX8_rowsOfLot 15 = .ok (.ireturn, 1) := by decide +kernel
theorem dX8_isRoom_0 : decode cX8_isRoom 0 = .ok (.iload_n 0, 1) := by decide +kernel
theorem dX8_isRoom_1 : decode cX8_isRoom 1 = .ok (.iconst 0, 1) := by decide +kernel
theorem dX8_isRoom_2 : decode cX8_isRoom 2 = .ok (.iconst 3, 1) := by decide +kernel
theorem dX8_isRoom_3 : decode cX8_isRoom 3 = .ok (.invokestatic 80, 3) := by decide +kernel
theorem dX8_isRoom_6 : decode cX8_isRoom 6 = .ok (.ireturn, 1) := by decide +kernel
theorem dX8_isHung_0 : decode cX8_isHung 0 = .ok (.aload_n 0, 1) := by decide +kernel
theorem dX8_isHung_1 : decode cX8_isHung 1 = .ok (.getfield 52, 3) := by decide +kernel
theorem dX8_isHung_4 : decode cX8_isHung 4 = .ok (.iload_n 1, 1) := by decide +kernel
theorem dX8_isHung_5 : decode cX8_isHung 5 = .ok (.iaload, 1) := by decide +kernel
theorem dX8_isHung_6 : decode cX8_isHung 6 = .ok (.iconst (-1), 1) := by decide +kernel
theorem dX8_isHung_7 : decode cX8_isHung 7 = .ok (.if_icmp .eq 7, 3) := by decide +kernel
theorem dX8_isHung_10 : decode cX8_isHung 10 = .ok (.iconst 1, 1) := by decide +kernel
theorem dX8_isHung_11 : decode cX8_isHung 11 = .ok (.goto 4, 3) := by decide +kernel
theorem dX8_isHung_14 : decode cX8_isHung 14 = .ok (.iconst 0, 1) := by decide +kernel
theorem dX8_isHung_15 : decode cX8_isHung 15 = .ok (.ireturn, 1) := by decide +kernel
theorem dX8_wall_0 : decode cX8_wall 0 = .ok (.iload_n 2, 1) := by decide +kernel
theorem dX8_wall_1 : decode cX8_wall 1 = .ok (.iconst 1, 1) := by decide +kernel
theorem dX8_wall_2 : decode cX8_wall 2 = .ok (.bipush 12, 2) := by decide +kernel
theorem dX8_wall_4 : decode cX8_wall 4 = .ok (.invokestatic 80, 3) := by decide +kernel
theorem dX8_wall_7 : decode cX8_wall 7 = .ok (.ifCond .eq 17, 3) := by decide +kernel
theorem dX8_wall_10 : decode cX8_wall 10 = .ok (.iload_n 3, 1) := by decide +kernel
theorem dX8_wall_11 : decode cX8_wall 11 = .ok (.iconst 1, 1) := by decide +kernel
theorem dX8_wall_12 : decode cX8_wall 12 = .ok (.bipush 60, 2) := by decide +kernel
theorem dX8_wall_14 : decode cX8_wall 14 = .ok (.invokestatic 80, 3) := by decide +kernel
theorem dX8_wall_17 : decode cX8_wall 17 = .ok (.ifCond .eq 7, 3) := by decide +kernel
theorem dX8_wall_20 : decode cX8_wall 20 = .ok (.iconst 1, 1) := by decide +kernel
theorem dX8_wall_21 : decode cX8_wall 21 = .ok (.goto 4, 3) := by decide +kernel
theorem dX8_wall_24 : decode cX8_wall 24 = .ok (.iconst 0, 1) := by decide +kernel
theorem dX8_wall_25 : decode cX8_wall 25 = .ok (.istore 4, 2) := by decide +kernel
theorem dX8_wall_27 : decode cX8_wall 27 = .ok (.aload_n 0, 1) := by decide +kernel
theorem dX8_wall_28 : decode cX8_wall 28 = .ok (.iload_n 1, 1) := by decide +kernel
theorem dX8_wall_29 : decode cX8_wall 29 = .ok (.invokestatic 118, 3) := by decide +kernel
theorem dX8_wall_32 : decode cX8_wall 32 = .ok (.ifCond .ne 7, 3) := by decide +kernel
theorem dX8_wall_35 : decode cX8_wall 35 = .ok (.iconst 1, 1) := by decide +kernel
theorem dX8_wall_36 : decode cX8_wall 36 = .ok (.goto 35, 3) := by decide +kernel
theorem dX8_wall_39 : decode cX8_wall 39 = .ok (.iload 4, 2) := by decide +kernel
theorem dX8_wall_41 : decode cX8_wall 41 = .ok (.ifCond .ne 7, 3) := by decide +kernel
theorem dX8_wall_44 : decode cX8_wall 44 = .ok (.iconst 2, 1) := by decide +kernel
theorem dX8_wall_45 : decode cX8_wall 45 = .ok (.goto 26, 3) := by decide +kernel
theorem dX8_wall_48 : decode cX8_wall 48 = .ok (.aload_n 0, 1) := by decide +kernel
theorem dX8_wall_49 : decode cX8_wall 49 = .ok (.iload_n 1, 1) := by decide +kernel
theorem dX8_wall_50 : decode cX8_wall 50 = .ok (.invokevirtual 121, 3) := by decide +kernel
theorem dX8_wall_53 : decode cX8_wall 53 = .ok (.ifCond .ne 13, 3) := by decide +kernel
theorem dX8_wall_56 : decode cX8_wall 56 = .ok (.aload_n 0, 1) := by decide +kernel
theorem dX8_wall_57 : decode cX8_wall 57 = .ok (.getfield 43, 3) := by decide +kernel
theorem dX8_wall_60 : decode cX8_wall 60 = .ok (.iload_n 1, 1) := by decide +kernel
theorem dX8_wall_61 : decode cX8_wall 61 = .ok (.iaload, 1) := by decide +kernel
theorem dX8_wall_62 : decode cX8_wall 62 = .ok (.iconst 4, 1) := by decide +kernel
theorem dX8_wall_63 : decode cX8_wall 63 = .ok (.if_icmp .ne 7, 3) := by decide +kernel
theorem dX8_wall_66 : decode cX8_wall 66 = .ok (.iconst 3, 1) := by decide +kernel
theorem dX8_wall_67 : decode cX8_wall 67 = .ok (.goto 4, 3) := by decide +kernel
theorem dX8_wall_70 : decode cX8_wall 70 = .ok (.iconst 0, 1) := by decide +kernel
theorem dX8_wall_71 : decode cX8_wall 71 = .ok (.invokevirtual 84, 3) := by decide +kernel
theorem dX8_wall_74 : decode cX8_wall 74 = .ok (.ifCond .eq 5, 3) := by decide +kernel
theorem dX8_wall_77 : decode cX8_wall 77 = .ok (.iconst 0, 1) := by decide +kernel
theorem dX8_wall_78 : decode cX8_wall 78 = .ok (.ireturn, 1) := by decide +kernel
theorem dX8_wall_79 : decode cX8_wall 79 = .ok (.iconst 4, 1) := by decide +kernel
theorem dX8_wall_80 : decode cX8_wall 80 = .ok (.iload_n 1, 1) := by decide +kernel
theorem dX8_wall_81 : decode cX8_wall 81 = .ok (.imul, 1) := by decide +kernel
theorem dX8_wall_82 : decode cX8_wall 82 = .ok (.aload_n 0, 1) := by decide +kernel
theorem dX8_wall_83 : decode cX8_wall 83 = .ok (.getfield 43, 3) := by decide +kernel
theorem dX8_wall_86 : decode cX8_wall 86 = .ok (.iload_n 1, 1) := by decide +kernel
theorem dX8_wall_87 : decode cX8_wall 87 = .ok (.iaload, 1) := by decide +kernel
theorem dX8_wall_88 : decode cX8_wall 88 = .ok (.iadd, 1) := by decide +kernel
theorem dX8_wall_89 : decode cX8_wall 89 = .ok (.istore 5, 2) := by decide +kernel
theorem dX8_wall_91 : decode cX8_wall 91 = .ok (.aload_n 0, 1) := by decide +kernel
theorem dX8_wall_92 : decode cX8_wall 92 = .ok (.getfield 46, 3) := by decide +kernel
theorem dX8_wall_95 : decode cX8_wall 95 = .ok (.iload 5, 2) := by decide +kernel
theorem dX8_wall_97 : decode cX8_wall 97 = .ok (.iload_n 2, 1) := by decide +kernel
theorem dX8_wall_98 : decode cX8_wall 98 = .ok (.iastore, 1) := by decide +kernel
theorem dX8_wall_99 : decode cX8_wall 99 = .ok (.aload_n 0, 1) := by decide +kernel
theorem dX8_wall_100 : decode cX8_wall 100 = .ok (.getfield 49, 3) := by decide +kernel
theorem dX8_wall_103 : decode cX8_wall 103 = .ok (.iload 5, 2) := by decide +kernel
theorem dX8_wall_105 : decode cX8_wall 105 = .ok (.iload_n 3, 1) := by decide +kernel
theorem dX8_wall_106 : decode cX8_wall 106 = .ok (.iastore, 1) := by decide +kernel
theorem dX8_wall_107 : decode cX8_wall 107 = .ok (.aload_n 0, 1) := by decide +kernel
theorem dX8_wall_108 : decode cX8_wall 108 = .ok (.getfield 43, 3) := by decide +kernel
theorem dX8_wall_111 : decode cX8_wall 111 = .ok (.iload_n 1, 1) := by decide +kernel
theorem dX8_wall_112 : decode cX8_wall 112 = .ok (.dup2, 1) := by decide +kernel
theorem dX8_wall_113 : decode cX8_wall 113 = .ok (.iaload, 1) := by decide +kernel
theorem dX8_wall_114 : decode cX8_wall 114 = .ok (.iconst 1, 1) := by decide +kernel
theorem dX8_wall_115 : decode cX8_wall 115 = .ok (.iadd, 1) := by decide +kernel
theorem dX8_wall_116 : decode cX8_wall 116 = .ok (.iastore, 1) := by decide +kernel
theorem dX8_wall_117 : decode cX8_wall 117 = .ok (.aload_n 0, 1) := by decide +kernel
theorem dX8_wall_118 : decode cX8_wall 118 = .ok (.getfield 43, 3) := by decide +kernel
theorem dX8_wall_121 : decode cX8_wall 121 = .ok (.iload_n 1, 1) := by decide +kernel
theorem dX8_wall_122 : decode cX8_wall 122 = .ok (.iaload, 1) := by decide +kernel
theorem dX8_wall_123 : decode cX8_wall 123 = .ok (.iconst 1, 1) := by decide +kernel
theorem dX8_wall_124 : decode cX8_wall 124 = .ok (.isub, 1) := by decide +kernel
theorem dX8_wall_125 : decode cX8_wall 125 = .ok (.ireturn, 1) := by decide +kernel
theorem dX8_give_0 : decode cX8_give 0 = .ok (.aload_n 0, 1) := by decide +kernel
theorem dX8_give_1 : decode cX8_give 1 = .ok (.iload_n 1, 1) := by decide +kernel
theorem dX8_give_2 : decode cX8_give 2 = .ok (.invokevirtual 124, 3) := by decide +kernel
theorem dX8_give_5 : decode cX8_give 5 = .ok (.istore 5, 2) := by decide +kernel
theorem dX8_give_7 : decode cX8_give 7 = .ok (.iconst 0, 1) := by decide +kernel
theorem dX8_give_8 : decode cX8_give 8 = .ok (.istore 6, 2) := by decide +kernel
theorem dX8_give_10 : decode cX8_give 10 = .ok (.iload 6, 2) := by decide +kernel
theorem dX8_give_12 : decode cX8_give 12 = .ok (.iload_n 3, 1) := by decide +kernel
theorem dX8_give_13 : decode cX8_give 13 = .ok (.if_icmp .ge 120, 3) := by decide +kernel
theorem dX8_give_16 : decode cX8_give 16 = .ok (.iload 6, 2) := by decide +kernel
theorem dX8_give_18 : decode cX8_give 18 = .ok (.aload_n 0, 1) := by decide +kernel
theorem dX8_give_19 : decode cX8_give 19 = .ok (.getfield 127, 3) := by decide +kernel
theorem dX8_give_22 : decode cX8_give 22 = .ok (.if_icmp .ge 13, 3) := by decide +kernel
theorem dX8_give_25 : decode cX8_give 25 = .ok (.aload_n 0, 1) := by decide +kernel
theorem dX8_give_26 : decode cX8_give 26 = .ok (.getfield 64, 3) := by decide +kernel
theorem dX8_give_29 : decode cX8_give 29 = .ok (.iload 6, 2) := by decide +kernel
theorem dX8_give_31 : decode cX8_give 31 = .ok (.iaload, 1) := by decide +kernel
theorem dX8_give_32 : decode cX8_give 32 = .ok (.goto 4, 3) := by decide +kernel
theorem dX8_give_35 : decode cX8_give 35 = .ok (.iconst 0, 1) := by decide +kernel
theorem dX8_give_36 : decode cX8_give 36 = .ok (.istore 7, 2) := by decide +kernel
theorem dX8_give_38 : decode cX8_give 38 = .ok (.iload 7, 2) := by decide +kernel
theorem dX8_give_40 : decode cX8_give 40 = .ok (.iload_n 2, 1) := by decide +kernel
theorem dX8_give_41 : decode cX8_give 41 = .ok (.iload 7, 2) := by decide +kernel
theorem dX8_give_43 : decode cX8_give 43 = .ok (.isub, 1) := by decide +kernel
theorem dX8_give_44 : decode cX8_give 44 = .ok (.iload 5, 2) := by decide +kernel
theorem dX8_give_46 : decode cX8_give 46 = .ok (.invokestatic 95, 3) := by decide +kernel
theorem dX8_give_49 : decode cX8_give 49 = .ok (.iadd, 1) := by decide +kernel
theorem dX8_give_50 : decode cX8_give 50 = .ok (.istore 8, 2) := by decide +kernel
theorem dX8_give_52 : decode cX8_give 52 = .ok (.iload 8, 2) := by decide +kernel
theorem dX8_give_54 : decode cX8_give 54 = .ok (.iload 4, 2) := by decide +kernel
theorem dX8_give_56 : decode cX8_give 56 = .ok (.iadd, 1) := by decide +kernel
theorem dX8_give_57 : decode cX8_give 57 = .ok (.aload_n 0, 1) := by decide +kernel
theorem dX8_give_58 : decode cX8_give 58 = .ok (.getfield 40, 3) := by decide +kernel
theorem dX8_give_61 : decode cX8_give 61 = .ok (.iload_n 1, 1) := by decide +kernel
theorem dX8_give_62 : decode cX8_give 62 = .ok (.iaload, 1) := by decide +kernel
theorem dX8_give_63 : decode cX8_give 63 = .ok (.if_icmp .gt 53, 3) := by decide +kernel
theorem dX8_give_66 : decode cX8_give 66 = .ok (.aload_n 0, 1) := by decide +kernel
theorem dX8_give_67 : decode cX8_give 67 = .ok (.iload 6, 2) := by decide +kernel
theorem dX8_give_69 : decode cX8_give 69 = .ok (.aload_n 0, 1) := by decide +kernel
theorem dX8_give_70 : decode cX8_give 70 = .ok (.getfield 127, 3) := by decide +kernel
theorem dX8_give_73 : decode cX8_give 73 = .ok (.if_icmp .ge 10, 3) := by decide +kernel
theorem dX8_give_76 : decode cX8_give 76 = .ok (.aload_n 0, 1) := by decide +kernel
theorem dX8_give_77 : decode cX8_give 77 = .ok (.getfield 127, 3) := by decide +kernel
theorem dX8_give_80 : decode cX8_give 80 = .ok (.goto 7, 3) := by decide +kernel
theorem dX8_give_83 : decode cX8_give 83 = .ok (.iload 6, 2) := by decide +kernel
theorem dX8_give_85 : decode cX8_give 85 = .ok (.iconst 1, 1) := by decide +kernel
theorem dX8_give_86 : decode cX8_give 86 = .ok (.iadd, 1) := by decide +kernel
theorem dX8_give_87 : decode cX8_give 87 = .ok (.putfield 127, 3) := by decide +kernel
theorem dX8_give_90 : decode cX8_give 90 = .ok (.aload_n 0, 1) := by decide +kernel
theorem dX8_give_91 : decode cX8_give 91 = .ok (.getfield 64, 3) := by decide +kernel
theorem dX8_give_94 : decode cX8_give 94 = .ok (.iload 6, 2) := by decide +kernel
theorem dX8_give_96 : decode cX8_give 96 = .ok (.iload 8, 2) := by decide +kernel
theorem dX8_give_98 : decode cX8_give 98 = .ok (.iload 4, 2) := by decide +kernel
theorem dX8_give_100 : decode cX8_give 100 = .ok (.iadd, 1) := by decide +kernel
theorem dX8_give_101 : decode cX8_give 101 = .ok (.iastore, 1) := by decide +kernel
theorem dX8_give_102 : decode cX8_give 102 = .ok (.aload_n 0, 1) := by decide +kernel
theorem dX8_give_103 : decode cX8_give 103 = .ok (.iload 6, 2) := by decide +kernel
theorem dX8_give_105 : decode cX8_give 105 = .ok (.putfield 130, 3) := by decide +kernel
theorem dX8_give_108 : decode cX8_give 108 = .ok (.aload_n 0, 1) := by decide +kernel
theorem dX8_give_109 : decode cX8_give 109 = .ok (.iload 8, 2) := by decide +kernel
theorem dX8_give_111 : decode cX8_give 111 = .ok (.putfield 133, 3) := by decide +kernel
theorem dX8_give_114 : decode cX8_give 114 = .ok (.iconst 1, 1) := by decide +kernel
theorem dX8_give_115 : decode cX8_give 115 = .ok (.ireturn, 1) := by decide +kernel
theorem dX8_give_116 : decode cX8_give 116 = .ok (.iload 6, 2) := by decide +kernel
theorem dX8_give_118 : decode cX8_give 118 = .ok (.aload_n 0, 1) := by decide +kernel
theorem dX8_give_119 : decode cX8_give 119 = .ok (.getfield 127, 3) := by decide +kernel
theorem dX8_give_122 : decode cX8_give 122 = .ok (.if_icmp .lt 5, 3) := by decide +kernel
theorem dX8_give_125 : decode cX8_give 125 = .ok (.iconst 0, 1) := by decide +kernel
theorem dX8_give_126 : decode cX8_give 126 = .ok (.ireturn, 1) := by decide +kernel
theorem dX8_give_127 : decode cX8_give 127 = .ok (.iinc 6 1, 3) := by decide +kernel
theorem dX8_give_130 : decode cX8_give 130 = .ok (.goto (-120), 3) := by decide +kernel
theorem dX8_give_133 : decode cX8_give 133 = .ok (.iconst 0, 1) := by decide +kernel
theorem dX8_give_134 : decode cX8_give 134 = .ok (.ireturn, 1) := by decide +kernel
theorem dX8_cutAll_0 : decode cX8_cutAll 0 = .ok (.aload_n 0, 1) := by decide +kernel
theorem dX8_cutAll_1 : decode cX8_cutAll 1 = .ok (.iconst 0, 1) := by decide +kernel
theorem dX8_cutAll_2 : decode cX8_cutAll 2 = .ok (.putfield 127, 3) := by decide +kernel
theorem dX8_cutAll_5 : decode cX8_cutAll 5 = .ok (.iconst 0, 1) := by decide +kernel
theorem dX8_cutAll_6 : decode cX8_cutAll 6 = .ok (.istore 5, 2) := by decide +kernel
theorem dX8_cutAll_8 : decode cX8_cutAll 8 = .ok (.iload 5, 2) := by decide +kernel
theorem dX8_cutAll_10 : decode cX8_cutAll 10 = .ok (.aload_n 0, 1) := by decide +kernel
theorem dX8_cutAll_11 : decode cX8_cutAll 11 = .ok (.getfield 43, 3) := by decide +kernel
theorem dX8_cutAll_14 : decode cX8_cutAll 14 = .ok (.iload_n 1, 1) := by decide +kernel
theorem dX8_cutAll_15 : decode cX8_cutAll 15 = .ok (.iaload, 1) := by decide +kernel
theorem dX8_cutAll_16 : decode cX8_cutAll 16 = .ok (.if_icmp .ge 101, 3) := by decide +kernel
theorem dX8_cutAll_19 : decode cX8_cutAll 19 = .ok (.iconst 4, 1) := by decide +kernel
theorem dX8_cutAll_20 : decode cX8_cutAll 20 = .ok (.iload_n 1, 1) := by decide +kernel
theorem dX8_cutAll_21 : decode cX8_cutAll 21 = .ok (.imul, 1) := by decide +kernel
theorem dX8_cutAll_22 : decode cX8_cutAll 22 = .ok (.iload 5, 2) := by decide +kernel
theorem dX8_cutAll_24 : decode cX8_cutAll 24 = .ok (.iadd, 1) := by decide +kernel
theorem dX8_cutAll_25 : decode cX8_cutAll 25 = .ok (.istore 6, 2) := by decide +kernel
theorem dX8_cutAll_27 : decode cX8_cutAll 27 = .ok (.iconst 0, 1) := by decide +kernel
theorem dX8_cutAll_28 : decode cX8_cutAll 28 = .ok (.istore 7, 2) := by decide +kernel
theorem dX8_cutAll_30 : decode cX8_cutAll 30 = .ok (.iload 7, 2) := by decide +kernel
theorem dX8_cutAll_32 : decode cX8_cutAll 32 = .ok (.aload_n 0, 1) := by decide +kernel
theorem dX8_cutAll_33 : decode cX8_cutAll 33 = .ok (.getfield 46, 3) := by decide +kernel
theorem dX8_cutAll_36 : decode cX8_cutAll 36 = .ok (.iload 6, 2) := by decide +kernel
theorem dX8_cutAll_38 : decode cX8_cutAll 38 = .ok (.iaload, 1) := by decide +kernel
theorem dX8_cutAll_39 : decode cX8_cutAll 39 = .ok (.if_icmp .ge 72, 3) := by decide +kernel
theorem dX8_cutAll_42 : decode cX8_cutAll 42 = .ok (.aload_n 0, 1) := by decide +kernel
theorem dX8_cutAll_43 : decode cX8_cutAll 43 = .ok (.iload_n 2, 1) := by decide +kernel
theorem dX8_cutAll_44 : decode cX8_cutAll 44 = .ok (.iload_n 3, 1) := by decide +kernel
theorem dX8_cutAll_45 : decode cX8_cutAll 45 = .ok (.aload_n 0, 1) := by decide +kernel
theorem dX8_cutAll_46 : decode cX8_cutAll 46 = .ok (.getfield 37, 3) := by decide +kernel
theorem dX8_cutAll_49 : decode cX8_cutAll 49 = .ok (.iload_n 2, 1) := by decide +kernel
theorem dX8_cutAll_50 : decode cX8_cutAll 50 = .ok (.iaload, 1) := by decide +kernel
theorem dX8_cutAll_51 : decode cX8_cutAll 51 = .ok (.aload_n 0, 1) := by decide +kernel
theorem dX8_cutAll_52 : decode cX8_cutAll 52 = .ok (.getfield 49, 3) := by decide +kernel
theorem dX8_cutAll_55 : decode cX8_cutAll 55 = .ok (.iload 6, 2) := by decide +kernel
theorem dX8_cutAll_57 : decode cX8_cutAll 57 = .ok (.iaload, 1) := by decide +kernel
theorem dX8_cutAll_58 : decode cX8_cutAll 58 = .ok (.invokevirtual 136, 3) := by decide +kernel
theorem dX8_cutAll_61 : decode cX8_cutAll 61 = .ok (.ifCond .ne 5, 3) := by decide +kernel
theorem dX8_cutAll_64 : decode cX8_cutAll 64 = .ok (.iconst (-1), 1) := by decide +kernel
theorem dX8_cutAll_65 : decode cX8_cutAll 65 = .ok (.ireturn, 1) := by decide +kernel
theorem dX8_cutAll_66 : decode cX8_cutAll 66 = .ok (.iload 4, 2) := by decide +kernel
theorem dX8_cutAll_68 : decode cX8_cutAll 68 = .ok (.ifCond .eq 37, 3) := by decide +kernel
theorem dX8_cutAll_71 : decode cX8_cutAll 71 = .ok (.aload_n 0, 1) := by decide +kernel
theorem dX8_cutAll_72 : decode cX8_cutAll 72 = .ok (.getfield 67, 3) := by decide +kernel
theorem dX8_cutAll_75 : decode cX8_cutAll 75 = .ok (.bipush 24, 2) := by decide +kernel
theorem dX8_cutAll_77 : decode cX8_cutAll 77 = .ok (.iload 6, 2) := by decide +kernel
theorem dX8_cutAll_79 : decode cX8_cutAll 79 = .ok (.imul, 1) := by decide +kernel
theorem dX8_cutAll_80 : decode cX8_cutAll 80 = .ok (.iload 7, 2) := by decide +kernel
theorem dX8_cutAll_82 : decode cX8_cutAll 82 = .ok (.iadd, 1) := by decide +kernel
theorem dX8_cutAll_83 : decode cX8_cutAll 83 = .ok (.aload_n 0, 1) := by decide +kernel
theorem dX8_cutAll_84 : decode cX8_cutAll 84 = .ok (.getfield 130, 3) := by decide +kernel
theorem dX8_cutAll_87 : decode cX8_cutAll 87 = .ok (.iastore, 1) := by decide +kernel
theorem dX8_cutAll_88 : decode cX8_cutAll 88 = .ok (.aload_n 0, 1) := by decide +kernel
theorem dX8_cutAll_89 : decode cX8_cutAll 89 = .ok (.getfield 70, 3) := by decide +kernel
theorem dX8_cutAll_92 : decode cX8_cutAll 92 = .ok (.bipush 24, 2) := by decide +kernel
theorem dX8_cutAll_94 : decode cX8_cutAll 94 = .ok (.iload 6, 2) := by decide +kernel
theorem dX8_cutAll_96 : decode cX8_cutAll 96 = .ok (.imul, 1) := by decide +kernel
theorem dX8_cutAll_97 : decode cX8_cutAll 97 = .ok (.iload 7, 2) := by decide +kernel
theorem dX8_cutAll_99 : decode cX8_cutAll 99 = .ok (.iadd, 1) := by decide +kernel
theorem dX8_cutAll_100 : decode cX8_cutAll 100 = .ok (.aload_n 0, 1) := by decide +kernel
theorem dX8_cutAll_101 : decode cX8_cutAll 101 = .ok (.getfield 133, 3) := by decide +kernel
theorem dX8_cutAll_104 : decode cX8_cutAll 104 = .ok (.iastore, 1) := by decide +kernel
theorem dX8_cutAll_105 : decode cX8_cutAll 105 = .ok (.iinc 7 1, 3) := by decide +kernel
theorem dX8_cutAll_108 : decode cX8_cutAll 108 = .ok (.goto (-78), 3) := by decide +kernel
theorem dX8_cutAll_111 : decode cX8_cutAll 111 = .ok (.iinc 5 1, 3) := by decide +kernel
theorem dX8_cutAll_114 : decode cX8_cutAll 114 = .ok (.goto (-106), 3) := by decide +kernel
theorem dX8_cutAll_117 : decode cX8_cutAll 117 = .ok (.aload_n 0, 1) := by decide +kernel
theorem dX8_cutAll_118 : decode cX8_cutAll 118 = .ok (.getfield 127, 3) := by decide +kernel
theorem dX8_cutAll_121 : decode cX8_cutAll 121 = .ok (.ireturn, 1) := by decide +kernel
theorem dX8_hang_0 : decode cX8_hang 0 = .ok (.iload_n 1, 1) := by decide +kernel
theorem dX8_hang_1 : decode cX8_hang 1 = .ok (.invokestatic 118, 3) := by decide +kernel
theorem dX8_hang_4 : decode cX8_hang 4 = .ok (.ifCond .eq 21, 3) := by decide +kernel
theorem dX8_hang_7 : decode cX8_hang 7 = .ok (.iload_n 2, 1) := by decide +kernel
theorem dX8_hang_8 : decode cX8_hang 8 = .ok (.iconst 0, 1) := by decide +kernel
theorem dX8_hang_9 : decode cX8_hang 9 = .ok (.aload_n 0, 1) := by decide +kernel
theorem dX8_hang_10 : decode cX8_hang 10 = .ok (.getfield 115, 3) := by decide +kernel
theorem dX8_hang_13 : decode cX8_hang 13 = .ok (.iconst 1, 1) := by decide +kernel
theorem dX8_hang_14 : decode cX8_hang 14 = .ok (.isub, 1) := by decide +kernel
theorem dX8_hang_15 : decode cX8_hang 15 = .ok (.invokestatic 80, 3) := by decide +kernel
theorem dX8_hang_18 : decode cX8_hang 18 = .ok (.ifCond .eq 7, 3) := by decide +kernel
theorem dX8_hang_21 : decode cX8_hang 21 = .ok (.iconst 1, 1) := by decide +kernel
theorem dX8_hang_22 : decode cX8_hang 22 = .ok (.goto 4, 3) := by decide +kernel
theorem dX8_hang_25 : decode cX8_hang 25 = .ok (.iconst 0, 1) := by decide +kernel
theorem dX8_hang_26 : decode cX8_hang 26 = .ok (.istore_n 3, 1) := by decide +kernel
theorem dX8_hang_27 : decode cX8_hang 27 = .ok (.iload_n 3, 1) := by decide +kernel
theorem dX8_hang_28 : decode cX8_hang 28 = .ok (.ifCond .eq 20, 3) := by decide +kernel
theorem dX8_hang_31 : decode cX8_hang 31 = .ok (.aload_n 0, 1) := by decide +kernel
theorem dX8_hang_32 : decode cX8_hang 32 = .ok (.iload_n 1, 1) := by decide +kernel
theorem dX8_hang_33 : decode cX8_hang 33 = .ok (.invokevirtual 121, 3) := by decide +kernel
theorem dX8_hang_36 : decode cX8_hang 36 = .ok (.ifCond .ne 12, 3) := by decide +kernel
theorem dX8_hang_39 : decode cX8_hang 39 = .ok (.aload_n 0, 1) := by decide +kernel
theorem dX8_hang_40 : decode cX8_hang 40 = .ok (.getfield 43, 3) := by decide +kernel
theorem dX8_hang_43 : decode cX8_hang 43 = .ok (.iload_n 1, 1) := by decide +kernel
theorem dX8_hang_44 : decode cX8_hang 44 = .ok (.iaload, 1) := by decide +kernel
theorem dX8_hang_45 : decode cX8_hang 45 = .ok (.ifCond .ne 19, 3) := by decide +kernel
theorem dX8_hang_48 : decode cX8_hang 48 = .ok (.aload_n 0, 1) := by decide +kernel
theorem dX8_hang_49 : decode cX8_hang 49 = .ok (.iload_n 3, 1) := by decide +kernel
theorem dX8_hang_50 : decode cX8_hang 50 = .ok (.ifCond .ne 7, 3) := by decide +kernel
theorem dX8_hang_53 : decode cX8_hang 53 = .ok (.iconst 1, 1) := by decide +kernel
theorem dX8_hang_54 : decode cX8_hang 54 = .ok (.goto 4, 3) := by decide +kernel
theorem dX8_hang_57 : decode cX8_hang 57 = .ok (.iconst 2, 1) := by decide +kernel
theorem dX8_hang_58 : decode cX8_hang 58 = .ok (.invokevirtual 84, 3) := by decide +kernel
theorem dX8_hang_61 : decode cX8_hang 61 = .ok (.pop, 1) := by decide +kernel
theorem dX8_hang_62 : decode cX8_hang 62 = .ok (.iconst 0, 1) := by decide +kernel
theorem dX8_hang_63 : decode cX8_hang 63 = .ok (.ireturn, 1) := by decide +kernel
theorem dX8_hang_64 : decode cX8_hang 64 = .ok (.iconst (-1), 1) := by decide +kernel
theorem dX8_hang_65 : decode cX8_hang 65 = .ok (.istore 4, 2) := by decide +kernel
theorem dX8_hang_67 : decode cX8_hang 67 = .ok (.bipush 21, 2) := by decide +kernel
theorem dX8_hang_69 : decode cX8_hang 69 = .ok (.istore 5, 2) := by decide +kernel
theorem dX8_hang_71 : decode cX8_hang 71 = .ok (.iconst 0, 1) := by decide +kernel
theorem dX8_hang_72 : decode cX8_hang 72 = .ok (.istore 6, 2) := by decide +kernel
theorem dX8_hang_74 : decode cX8_hang 74 = .ok (.iload 6, 2) := by decide +kernel
theorem dX8_hang_76 : decode cX8_hang 76 = .ok (.aload_n 0, 1) := by decide +kernel
theorem dX8_hang_77 : decode cX8_hang 77 = .ok (.iload_n 2, 1) := by decide +kernel
theorem dX8_hang_78 : decode cX8_hang 78 = .ok (.invokevirtual 124, 3) := by decide +kernel
theorem dX8_hang_81 : decode cX8_hang 81 = .ok (.if_icmp .ge 41, 3) := by decide +kernel
theorem dX8_hang_84 : decode cX8_hang 84 = .ok (.aload_n 0, 1) := by decide +kernel
theorem dX8_hang_85 : decode cX8_hang 85 = .ok (.iload_n 1, 1) := by decide +kernel
theorem dX8_hang_86 : decode cX8_hang 86 = .ok (.iload_n 2, 1) := by decide +kernel
theorem dX8_hang_87 : decode cX8_hang 87 = .ok (.iload 6, 2) := by decide +kernel
theorem dX8_hang_89 : decode cX8_hang 89 = .ok (.iconst 0, 1) := by decide +kernel
theorem dX8_hang_90 : decode cX8_hang 90 = .ok (.invokevirtual 140, 3) := by decide +kernel
theorem dX8_hang_93 : decode cX8_hang 93 = .ok (.istore 7, 2) := by decide +kernel
theorem dX8_hang_95 : decode cX8_hang 95 = .ok (.iload 7, 2) := by decide +kernel
theorem dX8_hang_97 : decode cX8_hang 97 = .ok (.iconst (-1), 1) := by decide +kernel
theorem dX8_hang_98 : decode cX8_hang 98 = .ok (.if_icmp .eq 18, 3) := by decide +kernel
theorem dX8_hang_101 : decode cX8_hang 101 = .ok (.iload 7, 2) := by decide +kernel
theorem dX8_hang_103 : decode cX8_hang 103 = .ok (.iload 5, 2) := by decide +kernel
theorem dX8_hang_105 : decode cX8_hang 105 = .ok (.if_icmp .ge 11, 3) := by decide +kernel
theorem dX8_hang_108 : decode cX8_hang 108 = .ok (.iload 6, 2) := by decide +kernel
theorem dX8_hang_110 : decode cX8_hang 110 = .ok (.istore 4, 2) := by decide +kernel
theorem dX8_hang_112 : decode cX8_hang 112 = .ok (.iload 7, 2) := by decide +kernel
theorem dX8_hang_114 : decode cX8_hang 114 = .ok (.istore 5, 2) := by decide +kernel
theorem dX8_hang_116 : decode cX8_hang 116 = .ok (.iinc 6 1, 3) := by decide +kernel
theorem dX8_hang_119 : decode cX8_hang 119 = .ok (.goto (-45), 3) := by decide +kernel
theorem dX8_hang_122 : decode cX8_hang 122 = .ok (.aload_n 0, 1) := by decide +kernel
theorem dX8_hang_123 : decode cX8_hang 123 = .ok (.iload 4, 2) := by decide +kernel
theorem dX8_hang_125 : decode cX8_hang 125 = .ok (.iconst (-1), 1) := by decide +kernel
theorem dX8_hang_126 : decode cX8_hang 126 = .ok (.if_icmp .ne 7, 3) := by decide +kernel
theorem dX8_hang_129 : decode cX8_hang 129 = .ok (.iconst 2, 1) := by decide +kernel
theorem dX8_hang_130 : decode cX8_hang 130 = .ok (.goto 4, 3) := by decide +kernel
theorem dX8_hang_133 : decode cX8_hang 133 = .ok (.iconst 0, 1) := by decide +kernel
theorem dX8_hang_134 : decode cX8_hang 134 = .ok (.invokevirtual 84, 3) := by decide +kernel
theorem dX8_hang_137 : decode cX8_hang 137 = .ok (.ifCond .eq 5, 3) := by decide +kernel
theorem dX8_hang_140 : decode cX8_hang 140 = .ok (.iconst 0, 1) := by decide +kernel
theorem dX8_hang_141 : decode cX8_hang 141 = .ok (.ireturn, 1) := by decide +kernel
theorem dX8_hang_142 : decode cX8_hang 142 = .ok (.aload_n 0, 1) := by decide +kernel
theorem dX8_hang_143 : decode cX8_hang 143 = .ok (.iload_n 1, 1) := by decide +kernel
theorem dX8_hang_144 : decode cX8_hang 144 = .ok (.iload_n 2, 1) := by decide +kernel
theorem dX8_hang_145 : decode cX8_hang 145 = .ok (.iload 4, 2) := by decide +kernel
theorem dX8_hang_147 : decode cX8_hang 147 = .ok (.iconst 1, 1) := by decide +kernel
theorem dX8_hang_148 : decode cX8_hang 148 = .ok (.invokevirtual 140, 3) := by decide +kernel
theorem dX8_hang_151 : decode cX8_hang 151 = .ok (.pop, 1) := by decide +kernel
theorem dX8_hang_152 : decode cX8_hang 152 = .ok (.aload_n 0, 1) := by decide +kernel
theorem dX8_hang_153 : decode cX8_hang 153 = .ok (.getfield 52, 3) := by decide +kernel
theorem dX8_hang_156 : decode cX8_hang 156 = .ok (.iload_n 1, 1) := by decide +kernel
theorem dX8_hang_157 : decode cX8_hang 157 = .ok (.iload_n 2, 1) := by decide +kernel
theorem dX8_hang_158 : decode cX8_hang 158 = .ok (.iastore, 1) := by decide +kernel
theorem dX8_hang_159 : decode cX8_hang 159 = .ok (.aload_n 0, 1) := by decide +kernel
theorem dX8_hang_160 : decode cX8_hang 160 = .ok (.getfield 55, 3) := by decide +kernel
theorem dX8_hang_163 : decode cX8_hang 163 = .ok (.iload_n 1, 1) := by decide +kernel
theorem dX8_hang_164 : decode cX8_hang 164 = .ok (.iload 4, 2) := by decide +kernel
theorem dX8_hang_166 : decode cX8_hang 166 = .ok (.iastore, 1) := by decide +kernel
theorem dX8_hang_167 : decode cX8_hang 167 = .ok (.aload_n 0, 1) := by decide +kernel
theorem dX8_hang_168 : decode cX8_hang 168 = .ok (.iload_n 1, 1) := by decide +kernel
theorem dX8_hang_169 : decode cX8_hang 169 = .ok (.invokevirtual 144, 3) := by decide +kernel
theorem dX8_hang_172 : decode cX8_hang 172 = .ok (.aload_n 0, 1) := by decide +kernel
theorem dX8_hang_173 : decode cX8_hang 173 = .ok (.getfield 37, 3) := by decide +kernel
theorem dX8_hang_176 : decode cX8_hang 176 = .ok (.iload_n 2, 1) := by decide +kernel
theorem dX8_hang_177 : decode cX8_hang 177 = .ok (.dup2, 1) := by decide +kernel
theorem dX8_hang_178 : decode cX8_hang 178 = .ok (.iaload, 1) := by decide +kernel
theorem dX8_hang_179 : decode cX8_hang 179 = .ok (.aload_n 0, 1) := by decide +kernel
theorem dX8_hang_180 : decode cX8_hang 180 = .ok (.getfield 58, 3) := by decide +kernel
theorem dX8_hang_183 : decode cX8_hang 183 = .ok (.iload_n 1, 1) := by decide +kernel
theorem dX8_hang_184 : decode cX8_hang 184 = .ok (.iaload, 1) := by decide +kernel
theorem dX8_hang_185 : decode cX8_hang 185 = .ok (.isub, 1) := by decide +kernel
theorem dX8_hang_186 : decode cX8_hang 186 = .ok (.iastore, 1) := by decide +kernel
theorem dX8_hang_187 : decode cX8_hang 187 = .ok (.aload_n 0, 1) := by decide +kernel
theorem dX8_hang_188 : decode cX8_hang 188 = .ok (.getfield 58, 3) := by decide +kernel
theorem dX8_hang_191 : decode cX8_hang 191 = .ok (.iload_n 1, 1) := by decide +kernel
theorem dX8_hang_192 : decode cX8_hang 192 = .ok (.iaload, 1) := by decide +kernel
theorem dX8_hang_193 : decode cX8_hang 193 = .ok (.ireturn, 1) := by decide +kernel
theorem dX8_keep_0 : decode cX8_keep 0 = .ok (.aload_n 0, 1) := by decide +kernel
theorem dX8_keep_1 : decode cX8_keep 1 = .ok (.getfield 58, 3) := by decide +kernel
theorem dX8_keep_4 : decode cX8_keep 4 = .ok (.iload_n 1, 1) := by decide +kernel
theorem dX8_keep_5 : decode cX8_keep 5 = .ok (.aload_n 0, 1) := by decide +kernel
theorem dX8_keep_6 : decode cX8_keep 6 = .ok (.getfield 127, 3) := by decide +kernel
theorem dX8_keep_9 : decode cX8_keep 9 = .ok (.iastore, 1) := by decide +kernel
theorem dX8_keep_10 : decode cX8_keep 10 = .ok (.iconst 0, 1) := by decide +kernel
theorem dX8_keep_11 : decode cX8_keep 11 = .ok (.istore_n 2, 1) := by decide +kernel
theorem dX8_keep_12 : decode cX8_keep 12 = .ok (.iload_n 2, 1) := by decide +kernel
theorem dX8_keep_13 : decode cX8_keep 13 = .ok (.aload_n 0, 1) := by decide +kernel
theorem dX8_keep_14 : decode cX8_keep 14 = .ok (.getfield 127, 3) := by decide +kernel
theorem dX8_keep_17 : decode cX8_keep 17 = .ok (.if_icmp .ge 26, 3) := by decide +kernel
theorem dX8_keep_20 : decode cX8_keep 20 = .ok (.aload_n 0, 1) := by decide +kernel
theorem dX8_keep_21 : decode cX8_keep 21 = .ok (.getfield 61, 3) := by decide +kernel
theorem dX8_keep_24 : decode cX8_keep 24 = .ok (.bipush 20, 2) := by decide +kernel
theorem dX8_keep_26 : decode cX8_keep 26 = .ok (.iload_n 1, 1) := by decide +kernel
theorem dX8_keep_27 : decode cX8_keep 27 = .ok (.imul, 1) := by decide +kernel
theorem dX8_keep_28 : decode cX8_keep 28 = .ok (.iload_n 2, 1) := by decide +kernel
theorem dX8_keep_29 : decode cX8_keep 29 = .ok (.iadd, 1) := by decide +kernel
theorem dX8_keep_30 : decode cX8_keep 30 = .ok (.aload_n 0, 1) := by decide +kernel
theorem dX8_keep_31 : decode cX8_keep 31 = .ok (.getfield 64, 3) := by decide +kernel
theorem dX8_keep_34 : decode cX8_keep 34 = .ok (.iload_n 2, 1) := by decide +kernel
theorem dX8_keep_35 : decode cX8_keep 35 = .ok (.iaload, 1) := by decide +kernel
theorem dX8_keep_36 : decode cX8_keep 36 = .ok (.iastore, 1) := by decide +kernel
theorem dX8_keep_37 : decode cX8_keep 37 = .ok (.iinc 2 1, 3) := by decide +kernel
theorem dX8_keep_40 : decode cX8_keep 40 = .ok (.goto (-28), 3) := by decide +kernel
theorem dX8_keep_43 : decode cX8_keep 43 = .ok (.return_, 1) := by decide +kernel
theorem dX8_lose_0 : decode cX8_lose 0 = .ok (.aload_n 0, 1) := by decide +kernel
theorem dX8_lose_1 : decode cX8_lose 1 = .ok (.dup, 1) := by decide +kernel
theorem dX8_lose_2 : decode cX8_lose 2 = .ok (.getfield 148, 3) := by decide +kernel
theorem dX8_lose_5 : decode cX8_lose 5 = .ok (.aload_n 0, 1) := by decide +kernel
theorem dX8_lose_6 : decode cX8_lose 6 = .ok (.getfield 58, 3) := by decide +kernel
theorem dX8_lose_9 : decode cX8_lose 9 = .ok (.iload_n 1, 1) := by decide +kernel
theorem dX8_lose_10 : decode cX8_lose 10 = .ok (.iaload, 1) := by decide +kernel
theorem dX8_lose_11 : decode cX8_lose 11 = .ok (.aload_n 0, 1) := by decide +kernel
theorem dX8_lose_12 : decode cX8_lose 12 = .ok (.getfield 40, 3) := by decide +kernel
theorem dX8_lose_15 : decode cX8_lose 15 = .ok (.aload_n 0, 1) := by decide +kernel
theorem dX8_lose_16 : decode cX8_lose 16 = .ok (.getfield 52, 3) := by decide +kernel
theorem dX8_lose_19 : decode cX8_lose 19 = .ok (.iload_n 1, 1) := by decide +kernel
theorem dX8_lose_20 : decode cX8_lose 20 = .ok (.iaload, 1) := by decide +kernel
theorem dX8_lose_21 : decode cX8_lose 21 = .ok (.iaload, 1) := by decide +kernel
theorem dX8_lose_22 : decode cX8_lose 22 = .ok (.imul, 1) := by decide +kernel
theorem dX8_lose_23 : decode cX8_lose 23 = .ok (.iadd, 1) := by decide +kernel
theorem dX8_lose_24 : decode cX8_lose 24 = .ok (.putfield 148, 3) := by decide +kernel
theorem dX8_lose_27 : decode cX8_lose 27 = .ok (.aload_n 0, 1) := by decide +kernel
theorem dX8_lose_28 : decode cX8_lose 28 = .ok (.getfield 52, 3) := by decide +kernel
theorem dX8_lose_31 : decode cX8_lose 31 = .ok (.iload_n 1, 1) := by decide +kernel
theorem dX8_lose_32 : decode cX8_lose 32 = .ok (.iconst (-1), 1) := by decide +kernel
theorem dX8_lose_33 : decode cX8_lose 33 = .ok (.iastore, 1) := by decide +kernel
theorem dX8_lose_34 : decode cX8_lose 34 = .ok (.return_, 1) := by decide +kernel
theorem dX8_isWall_0 : decode cX8_isWall 0 = .ok (.iload_n 1, 1) := by decide +kernel
theorem dX8_isWall_1 : decode cX8_isWall 1 = .ok (.invokestatic 118, 3) := by decide +kernel
theorem dX8_isWall_4 : decode cX8_isWall 4 = .ok (.ifCond .eq 23, 3) := by decide +kernel
theorem dX8_isWall_7 : decode cX8_isWall 7 = .ok (.iload_n 2, 1) := by decide +kernel
theorem dX8_isWall_8 : decode cX8_isWall 8 = .ok (.iconst 0, 1) := by decide +kernel
theorem dX8_isWall_9 : decode cX8_isWall 9 = .ok (.aload_n 0, 1) := by decide +kernel
theorem dX8_isWall_10 : decode cX8_isWall 10 = .ok (.getfield 43, 3) := by decide +kernel
theorem dX8_isWall_13 : decode cX8_isWall 13 = .ok (.iload_n 1, 1) := by decide +kernel
theorem dX8_isWall_14 : decode cX8_isWall 14 = .ok (.iaload, 1) := by decide +kernel
theorem dX8_isWall_15 : decode cX8_isWall 15 = .ok (.iconst 1, 1) := by decide +kernel
theorem dX8_isWall_16 : decode cX8_isWall 16 = .ok (.isub, 1) := by decide +kernel
theorem dX8_isWall_17 : decode cX8_isWall 17 = .ok (.invokestatic 80, 3) := by decide +kernel
theorem dX8_isWall_20 : decode cX8_isWall 20 = .ok (.ifCond .eq 7, 3) := by decide +kernel
theorem dX8_isWall_23 : decode cX8_isWall 23 = .ok (.iconst 1, 1) := by decide +kernel
theorem dX8_isWall_24 : decode cX8_isWall 24 = .ok (.goto 4, 3) := by decide +kernel
theorem dX8_isWall_27 : decode cX8_isWall 27 = .ok (.iconst 0, 1) := by decide +kernel
theorem dX8_isWall_28 : decode cX8_isWall 28 = .ok (.ireturn, 1) := by decide +kernel
theorem dX8_lengthen_0 : decode cX8_lengthen 0 = .ok (.aload_n 0, 1) := by decide +kernel
theorem dX8_lengthen_1 : decode cX8_lengthen 1 = .ok (.iload_n 1, 1) := by decide +kernel
theorem dX8_lengthen_2 : decode cX8_lengthen 2 = .ok (.iload_n 2, 1) := by decide +kernel
theorem dX8_lengthen_3 : decode cX8_lengthen 3 = .ok (.invokevirtual 151, 3) := by decide +kernel
theorem dX8_lengthen_6 : decode cX8_lengthen 6 = .ok (.istore 4, 2) := by decide +kernel
theorem dX8_lengthen_8 : decode cX8_lengthen 8 = .ok (.iload 4, 2) := by decide +kernel
theorem dX8_lengthen_10 : decode cX8_lengthen 10 = .ok (.ifCond .eq 11, 3) := by decide +kernel
theorem dX8_lengthen_13 : decode cX8_lengthen 13 = .ok (.iconst 4, 1) := by decide +kernel
theorem dX8_lengthen_14 : decode cX8_lengthen 14 = .ok (.iload_n 1, 1) := by decide +kernel
theorem dX8_lengthen_15 : decode cX8_lengthen 15 = .ok (.imul, 1) := by decide +kernel
theorem dX8_lengthen_16 : decode cX8_lengthen 16 = .ok (.iload_n 2, 1) := by decide +kernel
theorem dX8_lengthen_17 : decode cX8_lengthen 17 = .ok (.iadd, 1) := by decide +kernel
theorem dX8_lengthen_18 : decode cX8_lengthen 18 = .ok (.goto 4, 3) := by decide +kernel
theorem dX8_lengthen_21 : decode cX8_lengthen 21 = .ok (.iconst 0, 1) := by decide +kernel
theorem dX8_lengthen_22 : decode cX8_lengthen 22 = .ok (.istore 5, 2) := by decide +kernel
theorem dX8_lengthen_24 : decode cX8_lengthen 24 = .ok (.iload 4, 2) := by decide +kernel
theorem dX8_lengthen_26 : decode cX8_lengthen 26 = .ok (.ifCond .eq 29, 3) := by decide +kernel
theorem dX8_lengthen_29 : decode cX8_lengthen 29 = .ok (.aload_n 0, 1) := by decide +kernel
theorem dX8_lengthen_30 : decode cX8_lengthen 30 = .ok (.iload_n 1, 1) := by decide +kernel
theorem dX8_lengthen_31 : decode cX8_lengthen 31 = .ok (.invokevirtual 121, 3) := by decide +kernel
theorem dX8_lengthen_34 : decode cX8_lengthen 34 = .ok (.ifCond .eq 21, 3) := by decide +kernel
theorem dX8_lengthen_37 : decode cX8_lengthen 37 = .ok (.aload_n 0, 1) := by decide +kernel
theorem dX8_lengthen_38 : decode cX8_lengthen 38 = .ok (.getfield 46, 3) := by decide +kernel
theorem dX8_lengthen_41 : decode cX8_lengthen 41 = .ok (.iload 5, 2) := by decide +kernel
theorem dX8_lengthen_43 : decode cX8_lengthen 43 = .ok (.iaload, 1) := by decide +kernel
theorem dX8_lengthen_44 : decode cX8_lengthen 44 = .ok (.iload_n 3, 1) := by decide +kernel
theorem dX8_lengthen_45 : decode cX8_lengthen 45 = .ok (.iadd, 1) := by decide +kernel
theorem dX8_lengthen_46 : decode cX8_lengthen 46 = .ok (.bipush 24, 2) := by decide +kernel
theorem dX8_lengthen_48 : decode cX8_lengthen 48 = .ok (.if_icmp .gt 7, 3) := by decide +kernel
theorem dX8_lengthen_51 : decode cX8_lengthen 51 = .ok (.iconst 1, 1) := by decide +kernel
theorem dX8_lengthen_52 : decode cX8_lengthen 52 = .ok (.goto 4, 3) := by decide +kernel
theorem dX8_lengthen_55 : decode cX8_lengthen 55 = .ok (.iconst 0, 1) := by decide +kernel
theorem dX8_lengthen_56 : decode cX8_lengthen 56 = .ok (.istore 6, 2) := by decide +kernel
theorem dX8_lengthen_58 : decode cX8_lengthen 58 = .ok (.aload_n 0, 1) := by decide +kernel
theorem dX8_lengthen_59 : decode cX8_lengthen 59 = .ok (.iload 4, 2) := by decide +kernel
theorem dX8_lengthen_61 : decode cX8_lengthen 61 = .ok (.ifCond .ne 7, 3) := by decide +kernel
theorem dX8_lengthen_64 : decode cX8_lengthen 64 = .ok (.iconst 1, 1) := by decide +kernel
theorem dX8_lengthen_65 : decode cX8_lengthen 65 = .ok (.goto 27, 3) := by decide +kernel
theorem dX8_lengthen_68 : decode cX8_lengthen 68 = .ok (.iload_n 3, 1) := by decide +kernel
theorem dX8_lengthen_69 : decode cX8_lengthen 69 = .ok (.iconst 1, 1) := by decide +kernel
theorem dX8_lengthen_70 : decode cX8_lengthen 70 = .ok (.bipush 12, 2) := by decide +kernel
theorem dX8_lengthen_72 : decode cX8_lengthen 72 = .ok (.invokestatic 80, 3) := by decide +kernel
theorem dX8_lengthen_75 : decode cX8_lengthen 75 = .ok (.ifCond .ne 7, 3) := by decide +kernel
theorem dX8_lengthen_78 : decode cX8_lengthen 78 = .ok (.iconst 2, 1) := by decide +kernel
theorem dX8_lengthen_79 : decode cX8_lengthen 79 = .ok (.goto 13, 3) := by decide +kernel
theorem dX8_lengthen_82 : decode cX8_lengthen 82 = .ok (.iload 6, 2) := by decide +kernel
theorem dX8_lengthen_84 : decode cX8_lengthen 84 = .ok (.ifCond .ne 7, 3) := by decide +kernel
theorem dX8_lengthen_87 : decode cX8_lengthen 87 = .ok (.iconst 3, 1) := by decide +kernel
theorem dX8_lengthen_88 : decode cX8_lengthen 88 = .ok (.goto 4, 3) := by decide +kernel
theorem dX8_lengthen_91 : decode cX8_lengthen 91 = .ok (.iconst 0, 1) := by decide +kernel
theorem dX8_lengthen_92 : decode cX8_lengthen 92 = .ok (.invokevirtual 84, 3) := by decide +kernel
theorem dX8_lengthen_95 : decode cX8_lengthen 95 = .ok (.ifCond .eq 5, 3) := by decide +kernel
theorem dX8_lengthen_98 : decode cX8_lengthen 98 = .ok (.iconst 0, 1) := by decide +kernel
theorem dX8_lengthen_99 : decode cX8_lengthen 99 = .ok (.ireturn, 1) := by decide +kernel
theorem dX8_lengthen_100 : decode cX8_lengthen 100 = .ok (.aload_n 0, 1) := by decide +kernel
theorem dX8_lengthen_101 : decode cX8_lengthen 101 = .ok (.getfield 52, 3) := by decide +kernel
theorem dX8_lengthen_104 : decode cX8_lengthen 104 = .ok (.iload_n 1, 1) := by decide +kernel
theorem dX8_lengthen_105 : decode cX8_lengthen 105 = .ok (.iaload, 1) := by decide +kernel
theorem dX8_lengthen_106 : decode cX8_lengthen 106 = .ok (.istore 7, 2) := by decide +kernel
theorem dX8_lengthen_108 : decode cX8_lengthen 108 = .ok (.aload_n 0, 1) := by decide +kernel
theorem dX8_lengthen_109 : decode cX8_lengthen 109 = .ok (.getfield 58, 3) := by decide +kernel
theorem dX8_lengthen_112 : decode cX8_lengthen 112 = .ok (.iload_n 1, 1) := by decide +kernel
theorem dX8_lengthen_113 : decode cX8_lengthen 113 = .ok (.iaload, 1) := by decide +kernel
theorem dX8_lengthen_114 : decode cX8_lengthen 114 = .ok (.istore 8, 2) := by decide +kernel
theorem dX8_lengthen_116 : decode cX8_lengthen 116 = .ok (.aload_n 0, 1) := by decide +kernel
theorem dX8_lengthen_117 : decode cX8_lengthen 117 = .ok (.iload 8, 2) := by decide +kernel
theorem dX8_lengthen_119 : decode cX8_lengthen 119 = .ok (.putfield 127, 3) := by decide +kernel
theorem dX8_lengthen_122 : decode cX8_lengthen 122 = .ok (.iconst 0, 1) := by decide +kernel
theorem dX8_lengthen_123 : decode cX8_lengthen 123 = .ok (.istore 9, 2) := by decide +kernel
theorem dX8_lengthen_125 : decode cX8_lengthen 125 = .ok (.iload 9, 2) := by decide +kernel
theorem dX8_lengthen_127 : decode cX8_lengthen 127 = .ok (.iload 8, 2) := by decide +kernel
theorem dX8_lengthen_129 : decode cX8_lengthen 129 = .ok (.if_icmp .ge 28, 3) := by decide +kernel
theorem dX8_lengthen_132 : decode cX8_lengthen 132 = .ok (.aload_n 0, 1) := by decide +kernel
theorem dX8_lengthen_133 : decode cX8_lengthen 133 = .ok (.getfield 64, 3) := by decide +kernel
theorem dX8_lengthen_136 : decode cX8_lengthen 136 = .ok (.iload 9, 2) := by decide +kernel
theorem dX8_lengthen_138 : decode cX8_lengthen 138 = .ok (.aload_n 0, 1) := by decide +kernel
theorem dX8_lengthen_139 : decode cX8_lengthen 139 = .ok (.getfield 61, 3) := by decide +kernel
theorem dX8_lengthen_142 : decode cX8_lengthen 142 = .ok (.bipush 20, 2) := by decide +kernel
theorem dX8_lengthen_144 : decode cX8_lengthen 144 = .ok (.iload_n 1, 1) := by decide +kernel
theorem dX8_lengthen_145 : decode cX8_lengthen 145 = .ok (.imul, 1) := by decide +kernel
theorem dX8_lengthen_146 : decode cX8_lengthen 146 = .ok (.iload 9, 2) := by decide +kernel
theorem dX8_lengthen_148 : decode cX8_lengthen 148 = .ok (.iadd, 1) := by decide +kernel
theorem dX8_lengthen_149 : decode cX8_lengthen 149 = .ok (.iaload, 1) := by decide +kernel
theorem dX8_lengthen_150 : decode cX8_lengthen 150 = .ok (.iastore, 1) := by decide +kernel
theorem dX8_lengthen_151 : decode cX8_lengthen 151 = .ok (.iinc 9 1, 3) := by decide +kernel
theorem dX8_lengthen_154 : decode cX8_lengthen 154 = .ok (.goto (-29), 3) := by decide +kernel
theorem dX8_lengthen_157 : decode cX8_lengthen 157 = .ok (.iconst 1, 1) := by decide +kernel
theorem dX8_lengthen_158 : decode cX8_lengthen 158 = .ok (.istore 9, 2) := by decide +kernel
theorem dX8_lengthen_160 : decode cX8_lengthen 160 = .ok (.aload_n 0, 1) := by decide +kernel
theorem dX8_lengthen_161 : decode cX8_lengthen 161 = .ok (.getfield 46, 3) := by decide +kernel
theorem dX8_lengthen_164 : decode cX8_lengthen 164 = .ok (.iload 5, 2) := by decide +kernel
theorem dX8_lengthen_166 : decode cX8_lengthen 166 = .ok (.iaload, 1) := by decide +kernel
theorem dX8_lengthen_167 : decode cX8_lengthen 167 = .ok (.istore 10, 2) := by decide +kernel
theorem dX8_lengthen_169 : decode cX8_lengthen 169 = .ok (.iload 10, 2) := by decide +kernel
theorem dX8_lengthen_171 : decode cX8_lengthen 171 = .ok (.aload_n 0, 1) := by decide +kernel
theorem dX8_lengthen_172 : decode cX8_lengthen 172 = .ok (.getfield 46, 3) := by decide +kernel
theorem dX8_lengthen_175 : decode cX8_lengthen 175 = .ok (.iload 5, 2) := by decide +kernel
theorem dX8_lengthen_177 : decode cX8_lengthen 177 = .ok (.iaload, 1) := by decide +kernel
theorem dX8_lengthen_178 : decode cX8_lengthen 178 = .ok (.iload_n 3, 1) := by decide +kernel
theorem dX8_lengthen_179 : decode cX8_lengthen 179 = .ok (.iadd, 1) := by decide +kernel
theorem dX8_lengthen_180 : decode cX8_lengthen 180 = .ok (.if_icmp .ge 79, 3) := by decide +kernel
theorem dX8_lengthen_183 : decode cX8_lengthen 183 = .ok (.iload 9, 2) := by decide +kernel
theorem dX8_lengthen_185 : decode cX8_lengthen 185 = .ok (.ifCond .eq 74, 3) := by decide +kernel
theorem dX8_lengthen_188 : decode cX8_lengthen 188 = .ok (.aload_n 0, 1) := by decide +kernel
theorem dX8_lengthen_189 : decode cX8_lengthen 189 = .ok (.iload 7, 2) := by decide +kernel
theorem dX8_lengthen_191 : decode cX8_lengthen 191 = .ok (.aload_n 0, 1) := by decide +kernel
theorem dX8_lengthen_192 : decode cX8_lengthen 192 = .ok (.getfield 55, 3) := by decide +kernel
theorem dX8_lengthen_195 : decode cX8_lengthen 195 = .ok (.iload_n 1, 1) := by decide +kernel
theorem dX8_lengthen_196 : decode cX8_lengthen 196 = .ok (.iaload, 1) := by decide +kernel
theorem dX8_lengthen_197 : decode cX8_lengthen 197 = .ok (.iload 8, 2) := by decide +kernel
theorem dX8_lengthen_199 : decode cX8_lengthen 199 = .ok (.aload_n 0, 1) := by decide +kernel
theorem dX8_lengthen_200 : decode cX8_lengthen 200 = .ok (.getfield 37, 3) := by decide +kernel
theorem dX8_lengthen_203 : decode cX8_lengthen 203 = .ok (.iload 7, 2) := by decide +kernel
theorem dX8_lengthen_205 : decode cX8_lengthen 205 = .ok (.iaload, 1) := by decide +kernel
theorem dX8_lengthen_206 : decode cX8_lengthen 206 = .ok (.iadd, 1) := by decide +kernel
theorem dX8_lengthen_207 : decode cX8_lengthen 207 = .ok (.aload_n 0, 1) := by decide +kernel
theorem dX8_lengthen_208 : decode cX8_lengthen 208 = .ok (.getfield 49, 3) := by decide +kernel
theorem dX8_lengthen_211 : decode cX8_lengthen 211 = .ok (.iload 5, 2) := by decide +kernel
theorem dX8_lengthen_213 : decode cX8_lengthen 213 = .ok (.iaload, 1) := by decide +kernel
theorem dX8_lengthen_214 : decode cX8_lengthen 214 = .ok (.invokevirtual 136, 3) := by decide +kernel
theorem dX8_lengthen_217 : decode cX8_lengthen 217 = .ok (.istore 9, 2) := by decide +kernel
theorem dX8_lengthen_219 : decode cX8_lengthen 219 = .ok (.aload_n 0, 1) := by decide +kernel
theorem dX8_lengthen_220 : decode cX8_lengthen 220 = .ok (.getfield 67, 3) := by decide +kernel
theorem dX8_lengthen_223 : decode cX8_lengthen 223 = .ok (.bipush 24, 2) := by decide +kernel
theorem dX8_lengthen_225 : decode cX8_lengthen 225 = .ok (.iload 5, 2) := by decide +kernel
theorem dX8_lengthen_227 : decode cX8_lengthen 227 = .ok (.imul, 1) := by decide +kernel
theorem dX8_lengthen_228 : decode cX8_lengthen 228 = .ok (.iload 10, 2) := by decide +kernel
theorem dX8_lengthen_230 : decode cX8_lengthen 230 = .ok (.iadd, 1) := by decide +kernel
theorem dX8_lengthen_231 : decode cX8_lengthen 231 = .ok (.aload_n 0, 1) := by decide +kernel
theorem dX8_lengthen_232 : decode cX8_lengthen 232 = .ok (.getfield 130, 3) := by decide +kernel
theorem dX8_lengthen_235 : decode cX8_lengthen 235 = .ok (.iastore, 1) := by decide +kernel
theorem dX8_lengthen_236 : decode cX8_lengthen 236 = .ok (.aload_n 0, 1) := by decide +kernel
theorem dX8_lengthen_237 : decode cX8_lengthen 237 = .ok (.getfield 70, 3) := by decide +kernel
theorem dX8_lengthen_240 : decode cX8_lengthen 240 = .ok (.bipush 24, 2) := by decide +kernel
theorem dX8_lengthen_242 : decode cX8_lengthen 242 = .ok (.iload 5, 2) := by decide +kernel
theorem dX8_lengthen_244 : decode cX8_lengthen 244 = .ok (.imul, 1) := by decide +kernel
theorem dX8_lengthen_245 : decode cX8_lengthen 245 = .ok (.iload 10, 2) := by decide +kernel
theorem dX8_lengthen_247 : decode cX8_lengthen 247 = .ok (.iadd, 1) := by decide +kernel
theorem dX8_lengthen_248 : decode cX8_lengthen 248 = .ok (.aload_n 0, 1) := by decide +kernel
theorem dX8_lengthen_249 : decode cX8_lengthen 249 = .ok (.getfield 133, 3) := by decide +kernel
theorem dX8_lengthen_252 : decode cX8_lengthen 252 = .ok (.iastore, 1) := by decide +kernel
theorem dX8_lengthen_253 : decode cX8_lengthen 253 = .ok (.iinc 10 1, 3) := by decide +kernel
theorem dX8_lengthen_256 : decode cX8_lengthen 256 = .ok (.goto (-87), 3) := by decide +kernel
theorem dX8_lengthen_259 : decode cX8_lengthen 259 = .ok (.aload_n 0, 1) := by decide +kernel
theorem dX8_lengthen_260 : decode cX8_lengthen 260 = .ok (.getfield 46, 3) := by decide +kernel
theorem dX8_lengthen_263 : decode cX8_lengthen 263 = .ok (.iload 5, 2) := by decide +kernel
theorem dX8_lengthen_265 : decode cX8_lengthen 265 = .ok (.dup2, 1) := by decide +kernel
theorem dX8_lengthen_266 : decode cX8_lengthen 266 = .ok (.iaload, 1) := by decide +kernel
theorem dX8_lengthen_267 : decode cX8_lengthen 267 = .ok (.iload_n 3, 1) := by decide +kernel
theorem dX8_lengthen_268 : decode cX8_lengthen 268 = .ok (.iadd, 1) := by decide +kernel
theorem dX8_lengthen_269 : decode cX8_lengthen 269 = .ok (.iastore, 1) := by decide +kernel
theorem dX8_lengthen_270 : decode cX8_lengthen 270 = .ok (.iload 9, 2) := by decide +kernel
theorem dX8_lengthen_272 : decode cX8_lengthen 272 = .ok (.ifCond .ne 10, 3) := by decide +kernel
theorem dX8_lengthen_275 : decode cX8_lengthen 275 = .ok (.aload_n 0, 1) := by decide +kernel
theorem dX8_lengthen_276 : decode cX8_lengthen 276 = .ok (.iload_n 1, 1) := by decide +kernel
theorem dX8_lengthen_277 : decode cX8_lengthen 277 = .ok (.invokevirtual 155, 3) := by decide +kernel
theorem dX8_lengthen_280 : decode cX8_lengthen 280 = .ok (.iconst (-1), 1) := by decide +kernel
theorem dX8_lengthen_281 : decode cX8_lengthen 281 = .ok (.ireturn, 1) := by decide +kernel
theorem dX8_lengthen_282 : decode cX8_lengthen 282 = .ok (.aload_n 0, 1) := by decide +kernel
theorem dX8_lengthen_283 : decode cX8_lengthen 283 = .ok (.iload_n 1, 1) := by decide +kernel
theorem dX8_lengthen_284 : decode cX8_lengthen 284 = .ok (.invokevirtual 144, 3) := by decide +kernel
theorem dX8_lengthen_287 : decode cX8_lengthen 287 = .ok (.aload_n 0, 1) := by decide +kernel
theorem dX8_lengthen_288 : decode cX8_lengthen 288 = .ok (.getfield 37, 3) := by decide +kernel
theorem dX8_lengthen_291 : decode cX8_lengthen 291 = .ok (.iload 7, 2) := by decide +kernel
theorem dX8_lengthen_293 : decode cX8_lengthen 293 = .ok (.dup2, 1) := by decide +kernel
theorem dX8_lengthen_294 : decode cX8_lengthen 294 = .ok (.iaload, 1) := by decide +kernel
theorem dX8_lengthen_295 : decode cX8_lengthen 295 = .ok (.aload_n 0, 1) := by decide +kernel
theorem dX8_lengthen_296 : decode cX8_lengthen 296 = .ok (.getfield 58, 3) := by decide +kernel
theorem dX8_lengthen_299 : decode cX8_lengthen 299 = .ok (.iload_n 1, 1) := by decide +kernel
theorem dX8_lengthen_300 : decode cX8_lengthen 300 = .ok (.iaload, 1) := by decide +kernel
theorem dX8_lengthen_301 : decode cX8_lengthen 301 = .ok (.iload 8, 2) := by decide +kernel
theorem dX8_lengthen_303 : decode cX8_lengthen 303 = .ok (.isub, 1) := by decide +kernel
theorem dX8_lengthen_304 : decode cX8_lengthen 304 = .ok (.isub, 1) := by decide +kernel
theorem dX8_lengthen_305 : decode cX8_lengthen 305 = .ok (.iastore, 1) := by decide +kernel
theorem dX8_lengthen_306 : decode cX8_lengthen 306 = .ok (.aload_n 0, 1) := by decide +kernel
theorem dX8_lengthen_307 : decode cX8_lengthen 307 = .ok (.getfield 58, 3) := by decide +kernel
theorem dX8_lengthen_310 : decode cX8_lengthen 310 = .ok (.iload_n 1, 1) := by decide +kernel
theorem dX8_lengthen_311 : decode cX8_lengthen 311 = .ok (.iaload, 1) := by decide +kernel
theorem dX8_lengthen_312 : decode cX8_lengthen 312 = .ok (.iload 8, 2) := by decide +kernel
theorem dX8_lengthen_314 : decode cX8_lengthen 314 = .ok (.isub, 1) := by decide +kernel
theorem dX8_lengthen_315 : decode cX8_lengthen 315 = .ok (.ireturn, 1) := by decide +kernel
theorem dX8_strip_0 : decode cX8_strip 0 = .ok (.iload_n 1, 1) := by decide +kernel
theorem dX8_strip_1 : decode cX8_strip 1 = .ok (.invokestatic 118, 3) := by decide +kernel
theorem dX8_strip_4 : decode cX8_strip 4 = .ok (.istore_n 2, 1) := by decide +kernel
theorem dX8_strip_5 : decode cX8_strip 5 = .ok (.aload_n 0, 1) := by decide +kernel
theorem dX8_strip_6 : decode cX8_strip 6 = .ok (.iload_n 2, 1) := by decide +kernel
theorem dX8_strip_7 : decode cX8_strip 7 = .ok (.ifCond .ne 7, 3) := by decide +kernel
theorem dX8_strip_10 : decode cX8_strip 10 = .ok (.iconst 1, 1) := by decide +kernel
theorem dX8_strip_11 : decode cX8_strip 11 = .ok (.goto 16, 3) := by decide +kernel
theorem dX8_strip_14 : decode cX8_strip 14 = .ok (.aload_n 0, 1) := by decide +kernel
theorem dX8_strip_15 : decode cX8_strip 15 = .ok (.iload_n 1, 1) := by decide +kernel
theorem dX8_strip_16 : decode cX8_strip 16 = .ok (.invokevirtual 121, 3) := by decide +kernel
theorem dX8_strip_19 : decode cX8_strip 19 = .ok (.ifCond .ne 7, 3) := by decide +kernel
theorem dX8_strip_22 : decode cX8_strip 22 = .ok (.iconst 2, 1) := by decide +kernel
theorem dX8_strip_23 : decode cX8_strip 23 = .ok (.goto 4, 3) := by decide +kernel
theorem dX8_strip_26 : decode cX8_strip 26 = .ok (.iconst 0, 1) := by decide +kernel
theorem dX8_strip_27 : decode cX8_strip 27 = .ok (.invokevirtual 84, 3) := by decide +kernel
theorem dX8_strip_30 : decode cX8_strip 30 = .ok (.ifCond .eq 5, 3) := by decide +kernel
theorem dX8_strip_33 : decode cX8_strip 33 = .ok (.iconst 0, 1) := by decide +kernel
theorem dX8_strip_34 : decode cX8_strip 34 = .ok (.ireturn, 1) := by decide +kernel
theorem dX8_strip_35 : decode cX8_strip 35 = .ok (.aload_n 0, 1) := by decide +kernel
theorem dX8_strip_36 : decode cX8_strip 36 = .ok (.iload_n 1, 1) := by decide +kernel
theorem dX8_strip_37 : decode cX8_strip 37 = .ok (.invokevirtual 155, 3) := by decide +kernel
theorem dX8_strip_40 : decode cX8_strip 40 = .ok (.aload_n 0, 1) := by decide +kernel
theorem dX8_strip_41 : decode cX8_strip 41 = .ok (.getfield 58, 3) := by decide +kernel
theorem dX8_strip_44 : decode cX8_strip 44 = .ok (.iload_n 1, 1) := by decide +kernel
theorem dX8_strip_45 : decode cX8_strip 45 = .ok (.iaload, 1) := by decide +kernel
theorem dX8_strip_46 : decode cX8_strip 46 = .ok (.ireturn, 1) := by decide +kernel
theorem dX8_sum_0 : decode cX8_sum 0 = .ok (.iconst 0, 1) := by decide +kernel
theorem dX8_sum_1 : decode cX8_sum 1 = .ok (.istore_n 3, 1) := by decide +kernel
theorem dX8_sum_2 : decode cX8_sum 2 = .ok (.iconst 0, 1) := by decide +kernel
theorem dX8_sum_3 : decode cX8_sum 3 = .ok (.istore 4, 2) := by decide +kernel
theorem dX8_sum_5 : decode cX8_sum 5 = .ok (.iload 4, 2) := by decide +kernel
theorem dX8_sum_7 : decode cX8_sum 7 = .ok (.aload_n 0, 1) := by decide +kernel
theorem dX8_sum_8 : decode cX8_sum 8 = .ok (.getfield 43, 3) := by decide +kernel
theorem dX8_sum_11 : decode cX8_sum 11 = .ok (.iload_n 1, 1) := by decide +kernel
theorem dX8_sum_12 : decode cX8_sum 12 = .ok (.iaload, 1) := by decide +kernel
theorem dX8_sum_13 : decode cX8_sum 13 = .ok (.if_icmp .ge 43, 3) := by decide +kernel
theorem dX8_sum_16 : decode cX8_sum 16 = .ok (.iload_n 3, 1) := by decide +kernel
theorem dX8_sum_17 : decode cX8_sum 17 = .ok (.aload_n 0, 1) := by decide +kernel
theorem dX8_sum_18 : decode cX8_sum 18 = .ok (.getfield 46, 3) := by decide +kernel
theorem dX8_sum_21 : decode cX8_sum 21 = .ok (.iconst 4, 1) := by decide +kernel
theorem dX8_sum_22 : decode cX8_sum 22 = .ok (.iload_n 1, 1) := by decide +kernel
theorem dX8_sum_23 : decode cX8_sum 23 = .ok (.imul, 1) := by decide +kernel
theorem dX8_sum_24 : decode cX8_sum 24 = .ok (.iload 4, 2) := by decide +kernel
theorem dX8_sum_26 : decode cX8_sum 26 = .ok (.iadd, 1) := by decide +kernel
theorem dX8_sum_27 : decode cX8_sum 27 = .ok (.iaload, 1) := by decide +kernel
theorem dX8_sum_28 : decode cX8_sum 28 = .ok (.iload_n 2, 1) := by decide +kernel
theorem dX8_sum_29 : decode cX8_sum 29 = .ok (.ifCond .eq 17, 3) := by decide +kernel
theorem dX8_sum_32 : decode cX8_sum 32 = .ok (.aload_n 0, 1) := by decide +kernel
theorem dX8_sum_33 : decode cX8_sum 33 = .ok (.getfield 49, 3) := by decide +kernel
theorem dX8_sum_36 : decode cX8_sum 36 = .ok (.iconst 4, 1) := by decide +kernel
theorem dX8_sum_37 : decode cX8_sum 37 = .ok (.iload_n 1, 1) := by decide +kernel
theorem dX8_sum_38 : decode cX8_sum 38 = .ok (.imul, 1) := by decide +kernel
theorem dX8_sum_39 : decode cX8_sum 39 = .ok (.iload 4, 2) := by decide +kernel
theorem dX8_sum_41 : decode cX8_sum 41 = .ok (.iadd, 1) := by decide +kernel
theorem dX8_sum_42 : decode cX8_sum 42 = .ok (.iaload, 1) := by decide +kernel
theorem dX8_sum_43 : decode cX8_sum 43 = .ok (.goto 4, 3) := by decide +kernel
theorem dX8_sum_46 : decode cX8_sum 46 = .ok (.iconst 1, 1) := by decide +kernel
theorem dX8_sum_47 : decode cX8_sum 47 = .ok (.imul, 1) := by decide +kernel
theorem dX8_sum_48 : decode cX8_sum 48 = .ok (.iadd, 1) := by decide +kernel
theorem dX8_sum_49 : decode cX8_sum 49 = .ok (.istore_n 3, 1) := by decide +kernel
theorem dX8_sum_50 : decode cX8_sum 50 = .ok (.iinc 4 1, 3) := by decide +kernel
theorem dX8_sum_53 : decode cX8_sum 53 = .ok (.goto (-48), 3) := by decide +kernel
theorem dX8_sum_56 : decode cX8_sum 56 = .ok (.iload_n 3, 1) := by decide +kernel
theorem dX8_sum_57 : decode cX8_sum 57 = .ok (.ireturn, 1) := by decide +kernel
theorem dX8_room_0 : decode cX8_room 0 = .ok (.aload_n 0, 1) := by decide +kernel
theorem dX8_room_1 : decode cX8_room 1 = .ok (.iload_n 1, 1) := by decide +kernel
theorem dX8_room_2 : decode cX8_room 2 = .ok (.invokestatic 118, 3) := by decide +kernel
theorem dX8_room_5 : decode cX8_room 5 = .ok (.ifCond .ne 7, 3) := by decide +kernel
theorem dX8_room_8 : decode cX8_room 8 = .ok (.iconst 1, 1) := by decide +kernel
theorem dX8_room_9 : decode cX8_room 9 = .ok (.goto 17, 3) := by decide +kernel
theorem dX8_room_12 : decode cX8_room 12 = .ok (.iload_n 2, 1) := by decide +kernel
theorem dX8_room_13 : decode cX8_room 13 = .ok (.iconst 0, 1) := by decide +kernel
theorem dX8_room_14 : decode cX8_room 14 = .ok (.iconst 5, 1) := by decide +kernel
theorem dX8_room_15 : decode cX8_room 15 = .ok (.invokestatic 80, 3) := by decide +kernel
theorem dX8_room_18 : decode cX8_room 18 = .ok (.ifCond .ne 7, 3) := by decide +kernel
theorem dX8_room_21 : decode cX8_room 21 = .ok (.iconst 2, 1) := by decide +kernel
theorem dX8_room_22 : decode cX8_room 22 = .ok (.goto 4, 3) := by decide +kernel
theorem dX8_room_25 : decode cX8_room 25 = .ok (.iconst 0, 1) := by decide +kernel
theorem dX8_room_26 : decode cX8_room 26 = .ok (.invokevirtual 84, 3) := by decide +kernel
theorem dX8_room_29 : decode cX8_room 29 = .ok (.ifCond .eq 5, 3) := by decide +kernel
theorem dX8_room_32 : decode cX8_room 32 = .ok (.iconst 0, 1) := by decide +kernel
theorem dX8_room_33 : decode cX8_room 33 = .ok (.ireturn, 1) := by decide +kernel
theorem dX8_room_34 : decode cX8_room 34 = .ok (.iload_n 2, 1) := by decide +kernel
theorem dX8_room_35 : decode cX8_room 35 = .ok (.iconst 2, 1) := by decide +kernel
theorem dX8_room_36 : decode cX8_room 36 = .ok (.if_icmp .ge 23, 3) := by decide +kernel
theorem dX8_room_39 : decode cX8_room 39 = .ok (.iload_n 2, 1) := by decide +kernel
theorem dX8_room_40 : decode cX8_room 40 = .ok (.ifCond .ne 12, 3) := by decide +kernel
theorem dX8_room_43 : decode cX8_room 43 = .ok (.aload_n 0, 1) := by decide +kernel
theorem dX8_room_44 : decode cX8_room 44 = .ok (.getfield 43, 3) := by decide +kernel
theorem dX8_room_47 : decode cX8_room 47 = .ok (.iload_n 1, 1) := by decide +kernel
theorem dX8_room_48 : decode cX8_room 48 = .ok (.iaload, 1) := by decide +kernel
theorem dX8_room_49 : decode cX8_room 49 = .ok (.goto 9, 3) := by decide +kernel
theorem dX8_room_52 : decode cX8_room 52 = .ok (.aload_n 0, 1) := by decide +kernel
theorem dX8_room_53 : decode cX8_room 53 = .ok (.iload_n 1, 1) := by decide +kernel
theorem dX8_room_54 : decode cX8_room 54 = .ok (.iconst 0, 1) := by decide +kernel
theorem dX8_room_55 : decode cX8_room 55 = .ok (.invokevirtual 158, 3) := by decide +kernel
theorem dX8_room_58 : decode cX8_room 58 = .ok (.ireturn, 1) := by decide +kernel
theorem dX8_room_59 : decode cX8_room 59 = .ok (.aload_n 0, 1) := by decide +kernel
theorem dX8_room_60 : decode cX8_room 60 = .ok (.iload_n 1, 1) := by decide +kernel
theorem dX8_room_61 : decode cX8_room 61 = .ok (.invokevirtual 121, 3) := by decide +kernel
theorem dX8_room_64 : decode cX8_room 64 = .ok (.ifCond .ne 5, 3) := by decide +kernel
theorem dX8_room_67 : decode cX8_room 67 = .ok (.iconst (-1), 1) := by decide +kernel
theorem dX8_room_68 : decode cX8_room 68 = .ok (.ireturn, 1) := by decide +kernel
theorem dX8_room_69 : decode cX8_room 69 = .ok (.iload_n 2, 1) := by decide +kernel
theorem dX8_room_70 : decode cX8_room 70 = .ok (.iconst 2, 1) := by decide +kernel
theorem dX8_room_71 : decode cX8_room 71 = .ok (.if_icmp .ne 12, 3) := by decide +kernel
theorem dX8_room_74 : decode cX8_room 74 = .ok (.aload_n 0, 1) := by decide +kernel
theorem dX8_room_75 : decode cX8_room 75 = .ok (.getfield 52, 3) := by decide +kernel
theorem dX8_room_78 : decode cX8_room 78 = .ok (.iload_n 1, 1) := by decide +kernel
theorem dX8_room_79 : decode cX8_room 79 = .ok (.iaload, 1) := by decide +kernel
theorem dX8_room_80 : decode cX8_room 80 = .ok (.goto 56, 3) := by decide +kernel
theorem dX8_room_83 : decode cX8_room 83 = .ok (.iload_n 2, 1) := by decide +kernel
theorem dX8_room_84 : decode cX8_room 84 = .ok (.iconst 3, 1) := by decide +kernel
theorem dX8_room_85 : decode cX8_room 85 = .ok (.if_icmp .ne 12, 3) := by decide +kernel
theorem dX8_room_88 : decode cX8_room 88 = .ok (.aload_n 0, 1) := by decide +kernel
theorem dX8_room_89 : decode cX8_room 89 = .ok (.getfield 55, 3) := by decide +kernel
theorem dX8_room_92 : decode cX8_room 92 = .ok (.iload_n 1, 1) := by decide +kernel
theorem dX8_room_93 : decode cX8_room 93 = .ok (.iaload, 1) := by decide +kernel
theorem dX8_room_94 : decode cX8_room 94 = .ok (.goto 42, 3) := by decide +kernel
theorem dX8_room_97 : decode cX8_room 97 = .ok (.iload_n 2, 1) := by decide +kernel
theorem dX8_room_98 : decode cX8_room 98 = .ok (.iconst 4, 1) := by decide +kernel
theorem dX8_room_99 : decode cX8_room 99 = .ok (.if_icmp .ne 12, 3) := by decide +kernel
theorem dX8_room_102 : decode cX8_room 102 = .ok (.aload_n 0, 1) := by decide +kernel
theorem dX8_room_103 : decode cX8_room 103 = .ok (.getfield 58, 3) := by decide +kernel
theorem dX8_room_106 : decode cX8_room 106 = .ok (.iload_n 1, 1) := by decide +kernel
theorem dX8_room_107 : decode cX8_room 107 = .ok (.iaload, 1) := by decide +kernel
theorem dX8_room_108 : decode cX8_room 108 = .ok (.goto 28, 3) := by decide +kernel
theorem dX8_room_111 : decode cX8_room 111 = .ok (.aload_n 0, 1) := by decide +kernel
theorem dX8_room_112 : decode cX8_room 112 = .ok (.getfield 58, 3) := by decide +kernel
theorem dX8_room_115 : decode cX8_room 115 = .ok (.iload_n 1, 1) := by decide +kernel
theorem dX8_room_116 : decode cX8_room 116 = .ok (.iaload, 1) := by decide +kernel
theorem dX8_room_117 : decode cX8_room 117 = .ok (.aload_n 0, 1) := by decide +kernel
theorem dX8_room_118 : decode cX8_room 118 = .ok (.getfield 40, 3) := by decide +kernel
theorem dX8_room_121 : decode cX8_room 121 = .ok (.aload_n 0, 1) := by decide +kernel
theorem dX8_room_122 : decode cX8_room 122 = .ok (.getfield 52, 3) := by decide +kernel
theorem dX8_room_125 : decode cX8_room 125 = .ok (.iload_n 1, 1) := by decide +kernel
theorem dX8_room_126 : decode cX8_room 126 = .ok (.iaload, 1) := by decide +kernel
theorem dX8_room_127 : decode cX8_room 127 = .ok (.iaload, 1) := by decide +kernel
theorem dX8_room_128 : decode cX8_room 128 = .ok (.imul, 1) := by decide +kernel
theorem dX8_room_129 : decode cX8_room 129 = .ok (.aload_n 0, 1) := by decide +kernel
theorem dX8_room_130 : decode cX8_room 130 = .ok (.iload_n 1, 1) := by decide +kernel
theorem dX8_room_131 : decode cX8_room 131 = .ok (.iconst 1, 1) := by decide +kernel
theorem dX8_room_132 : decode cX8_room 132 = .ok (.invokevirtual 158, 3) := by decide +kernel
theorem dX8_room_135 : decode cX8_room 135 = .ok (.isub, 1) := by decide +kernel
theorem dX8_room_136 : decode cX8_room 136 = .ok (.ireturn, 1) := by decide +kernel
theorem dX8_cut_0 : decode cX8_cut 0 = .ok (.aload_n 0, 1) := by decide +kernel
theorem dX8_cut_1 : decode cX8_cut 1 = .ok (.iload_n 1, 1) := by decide +kernel
theorem dX8_cut_2 : decode cX8_cut 2 = .ok (.iload_n 2, 1) := by decide +kernel
theorem dX8_cut_3 : decode cX8_cut 3 = .ok (.invokevirtual 151, 3) := by decide +kernel
theorem dX8_cut_6 : decode cX8_cut 6 = .ok (.ifCond .eq 27, 3) := by decide +kernel
theorem dX8_cut_9 : decode cX8_cut 9 = .ok (.iload_n 3, 1) := by decide +kernel
theorem dX8_cut_10 : decode cX8_cut 10 = .ok (.iconst 0, 1) := by decide +kernel
theorem dX8_cut_11 : decode cX8_cut 11 = .ok (.aload_n 0, 1) := by decide +kernel
theorem dX8_cut_12 : decode cX8_cut 12 = .ok (.getfield 46, 3) := by decide +kernel
theorem dX8_cut_15 : decode cX8_cut 15 = .ok (.iconst 4, 1) := by decide +kernel
theorem dX8_cut_16 : decode cX8_cut 16 = .ok (.iload_n 1, 1) := by decide +kernel
theorem dX8_cut_17 : decode cX8_cut 17 = .ok (.imul, 1) := by decide +kernel
theorem dX8_cut_18 : decode cX8_cut 18 = .ok (.iload_n 2, 1) := by decide +kernel
theorem dX8_cut_19 : decode cX8_cut 19 = .ok (.iadd, 1) := by decide +kernel
theorem dX8_cut_20 : decode cX8_cut 20 = .ok (.iaload, 1) := by decide +kernel
theorem dX8_cut_21 : decode cX8_cut 21 = .ok (.iconst 1, 1) := by decide +kernel
theorem dX8_cut_22 : decode cX8_cut 22 = .ok (.isub, 1) := by decide +kernel
theorem dX8_cut_23 : decode cX8_cut 23 = .ok (.invokestatic 80, 3) := by decide +kernel
theorem dX8_cut_26 : decode cX8_cut 26 = .ok (.ifCond .eq 7, 3) := by decide +kernel
theorem dX8_cut_29 : decode cX8_cut 29 = .ok (.iconst 1, 1) := by decide +kernel
theorem dX8_cut_30 : decode cX8_cut 30 = .ok (.goto 4, 3) := by decide +kernel
theorem dX8_cut_33 : decode cX8_cut 33 = .ok (.iconst 0, 1) := by decide +kernel
theorem dX8_cut_34 : decode cX8_cut 34 = .ok (.istore 4, 2) := by decide +kernel
theorem dX8_cut_36 : decode cX8_cut 36 = .ok (.aload_n 0, 1) := by decide +kernel
theorem dX8_cut_37 : decode cX8_cut 37 = .ok (.iload 4, 2) := by decide +kernel
theorem dX8_cut_39 : decode cX8_cut 39 = .ok (.ifCond .eq 7, 3) := by decide +kernel
theorem dX8_cut_42 : decode cX8_cut 42 = .ok (.iconst 0, 1) := by decide +kernel
theorem dX8_cut_43 : decode cX8_cut 43 = .ok (.goto 4, 3) := by decide +kernel
theorem dX8_cut_46 : decode cX8_cut 46 = .ok (.iconst 1, 1) := by decide +kernel
theorem dX8_cut_47 : decode cX8_cut 47 = .ok (.invokevirtual 84, 3) := by decide +kernel
theorem dX8_cut_50 : decode cX8_cut 50 = .ok (.ifCond .eq 5, 3) := by decide +kernel
theorem dX8_cut_53 : decode cX8_cut 53 = .ok (.iconst 0, 1) := by decide +kernel
theorem dX8_cut_54 : decode cX8_cut 54 = .ok (.ireturn, 1) := by decide +kernel
theorem dX8_cut_55 : decode cX8_cut 55 = .ok (.bipush 24, 2) := by decide +kernel
theorem dX8_cut_57 : decode cX8_cut 57 = .ok (.iconst 4, 1) := by decide +kernel
theorem dX8_cut_58 : decode cX8_cut 58 = .ok (.iload_n 1, 1) := by decide +kernel
theorem dX8_cut_59 : decode cX8_cut 59 = .ok (.imul, 1) := by decide +kernel
theorem dX8_cut_60 : decode cX8_cut 60 = .ok (.iload_n 2, 1) := by decide +kernel
theorem dX8_cut_61 : decode cX8_cut 61 = .ok (.iadd, 1) := by decide +kernel
theorem dX8_cut_62 : decode cX8_cut 62 = .ok (.imul, 1) := by decide +kernel
theorem dX8_cut_63 : decode cX8_cut 63 = .ok (.iload_n 3, 1) := by decide +kernel
theorem dX8_cut_64 : decode cX8_cut 64 = .ok (.iadd, 1) := by decide +kernel
theorem dX8_cut_65 : decode cX8_cut 65 = .ok (.istore 5, 2) := by decide +kernel
theorem dX8_cut_67 : decode cX8_cut 67 = .ok (.aload_n 0, 1) := by decide +kernel
theorem dX8_cut_68 : decode cX8_cut 68 = .ok (.iload_n 1, 1) := by decide +kernel
theorem dX8_cut_69 : decode cX8_cut 69 = .ok (.invokevirtual 121, 3) := by decide +kernel
theorem dX8_cut_72 : decode cX8_cut 72 = .ok (.ifCond .eq 25, 3) := by decide +kernel
theorem dX8_cut_75 : decode cX8_cut 75 = .ok (.sipush 1000, 3) := by decide +kernel
theorem dX8_cut_78 : decode cX8_cut 78 = .ok (.aload_n 0, 1) := by decide +kernel
theorem dX8_cut_79 : decode cX8_cut 79 = .ok (.getfield 67, 3) := by decide +kernel
theorem dX8_cut_82 : decode cX8_cut 82 = .ok (.iload 5, 2) := by decide +kernel
theorem dX8_cut_84 : decode cX8_cut 84 = .ok (.iaload, 1) := by decide +kernel
theorem dX8_cut_85 : decode cX8_cut 85 = .ok (.imul, 1) := by decide +kernel
theorem dX8_cut_86 : decode cX8_cut 86 = .ok (.aload_n 0, 1) := by decide +kernel
theorem dX8_cut_87 : decode cX8_cut 87 = .ok (.getfield 70, 3) := by decide +kernel
theorem dX8_cut_90 : decode cX8_cut 90 = .ok (.iload 5, 2) := by decide +kernel
theorem dX8_cut_92 : decode cX8_cut 92 = .ok (.iaload, 1) := by decide +kernel
theorem dX8_cut_93 : decode cX8_cut 93 = .ok (.iadd, 1) := by decide +kernel
theorem dX8_cut_94 : decode cX8_cut 94 = .ok (.goto 4, 3) := by decide +kernel
theorem dX8_cut_97 : decode cX8_cut 97 = .ok (.iconst (-1), 1) := by decide +kernel
theorem dX8_cut_98 : decode cX8_cut 98 = .ok (.ireturn, 1) := by decide +kernel
theorem dX8_seen_0 : decode cX8_seen 0 = .ok (.aload_n 0, 1) := by decide +kernel
theorem dX8_seen_1 : decode cX8_seen 1 = .ok (.iload_n 1, 1) := by decide +kernel
theorem dX8_seen_2 : decode cX8_seen 2 = .ok (.iload_n 2, 1) := by decide +kernel
theorem dX8_seen_3 : decode cX8_seen 3 = .ok (.invokevirtual 151, 3) := by decide +kernel
theorem dX8_seen_6 : decode cX8_seen 6 = .ok (.istore 5, 2) := by decide +kernel
theorem dX8_seen_8 : decode cX8_seen 8 = .ok (.iload 5, 2) := by decide +kernel
theorem dX8_seen_10 : decode cX8_seen 10 = .ok (.ifCond .eq 11, 3) := by decide +kernel
theorem dX8_seen_13 : decode cX8_seen 13 = .ok (.aload_n 0, 1) := by decide +kernel
theorem dX8_seen_14 : decode cX8_seen 14 = .ok (.iload_n 1, 1) := by decide +kernel
theorem dX8_seen_15 : decode cX8_seen 15 = .ok (.invokevirtual 121, 3) := by decide +kernel
theorem dX8_seen_18 : decode cX8_seen 18 = .ok (.ifCond .ne 29, 3) := by decide +kernel
theorem dX8_seen_21 : decode cX8_seen 21 = .ok (.aload_n 0, 1) := by decide +kernel
theorem dX8_seen_22 : decode cX8_seen 22 = .ok (.iload 5, 2) := by decide +kernel
theorem dX8_seen_24 : decode cX8_seen 24 = .ok (.ifCond .eq 7, 3) := by decide +kernel
theorem dX8_seen_27 : decode cX8_seen 27 = .ok (.iconst 0, 1) := by decide +kernel
theorem dX8_seen_28 : decode cX8_seen 28 = .ok (.goto 4, 3) := by decide +kernel
theorem dX8_seen_31 : decode cX8_seen 31 = .ok (.iconst 1, 1) := by decide +kernel
theorem dX8_seen_32 : decode cX8_seen 32 = .ok (.invokevirtual 84, 3) := by decide +kernel
theorem dX8_seen_35 : decode cX8_seen 35 = .ok (.pop, 1) := by decide +kernel
theorem dX8_seen_36 : decode cX8_seen 36 = .ok (.iload 5, 2) := by decide +kernel
theorem dX8_seen_38 : decode cX8_seen 38 = .ok (.ifCond .eq 7, 3) := by decide +kernel
theorem dX8_seen_41 : decode cX8_seen 41 = .ok (.iconst (-1), 1) := by decide +kernel
theorem dX8_seen_42 : decode cX8_seen 42 = .ok (.goto 4, 3) := by decide +kernel
theorem dX8_seen_45 : decode cX8_seen 45 = .ok (.iconst 0, 1) := by decide +kernel
theorem dX8_seen_46 : decode cX8_seen 46 = .ok (.ireturn, 1) := by decide +kernel
theorem dX8_seen_47 : decode cX8_seen 47 = .ok (.iconst 4, 1) := by decide +kernel
theorem dX8_seen_48 : decode cX8_seen 48 = .ok (.iload_n 1, 1) := by decide +kernel
theorem dX8_seen_49 : decode cX8_seen 49 = .ok (.imul, 1) := by decide +kernel
theorem dX8_seen_50 : decode cX8_seen 50 = .ok (.iload_n 2, 1) := by decide +kernel
theorem dX8_seen_51 : decode cX8_seen 51 = .ok (.iadd, 1) := by decide +kernel
theorem dX8_seen_52 : decode cX8_seen 52 = .ok (.istore 6, 2) := by decide +kernel
theorem dX8_seen_54 : decode cX8_seen 54 = .ok (.aload_n 0, 1) := by decide +kernel
theorem dX8_seen_55 : decode cX8_seen 55 = .ok (.getfield 31, 3) := by decide +kernel
theorem dX8_seen_58 : decode cX8_seen 58 = .ok (.aload_n 0, 1) := by decide +kernel
theorem dX8_seen_59 : decode cX8_seen 59 = .ok (.getfield 52, 3) := by decide +kernel
theorem dX8_seen_62 : decode cX8_seen 62 = .ok (.iload_n 1, 1) := by decide +kernel
theorem dX8_seen_63 : decode cX8_seen 63 = .ok (.iaload, 1) := by decide +kernel
theorem dX8_seen_64 : decode cX8_seen 64 = .ok (.iaload, 1) := by decide +kernel
theorem dX8_seen_65 : decode cX8_seen 65 = .ok (.istore 7, 2) := by decide +kernel
theorem dX8_seen_67 : decode cX8_seen 67 = .ok (.aload_n 0, 1) := by decide +kernel
theorem dX8_seen_68 : decode cX8_seen 68 = .ok (.aload_n 0, 1) := by decide +kernel
theorem dX8_seen_69 : decode cX8_seen 69 = .ok (.getfield 22, 3) := by decide +kernel
theorem dX8_seen_72 : decode cX8_seen 72 = .ok (.iload 7, 2) := by decide +kernel
theorem dX8_seen_74 : decode cX8_seen 74 = .ok (.iaload, 1) := by decide +kernel
theorem dX8_seen_75 : decode cX8_seen 75 = .ok (.invokevirtual 91, 3) := by decide +kernel
theorem dX8_seen_78 : decode cX8_seen 78 = .ok (.istore 8, 2) := by decide +kernel
theorem dX8_seen_80 : decode cX8_seen 80 = .ok (.aload_n 0, 1) := by decide +kernel
theorem dX8_seen_81 : decode cX8_seen 81 = .ok (.iload_n 3, 1) := by decide +kernel
theorem dX8_seen_82 : decode cX8_seen 82 = .ok (.iconst 0, 1) := by decide +kernel
theorem dX8_seen_83 : decode cX8_seen 83 = .ok (.aload_n 0, 1) := by decide +kernel
theorem dX8_seen_84 : decode cX8_seen 84 = .ok (.getfield 46, 3) := by decide +kernel
theorem dX8_seen_87 : decode cX8_seen 87 = .ok (.iload 6, 2) := by decide +kernel
theorem dX8_seen_89 : decode cX8_seen 89 = .ok (.iaload, 1) := by decide +kernel
theorem dX8_seen_90 : decode cX8_seen 90 = .ok (.iload 8, 2) := by decide +kernel
theorem dX8_seen_92 : decode cX8_seen 92 = .ok (.imul, 1) := by decide +kernel
theorem dX8_seen_93 : decode cX8_seen 93 = .ok (.iconst 1, 1) := by decide +kernel
theorem dX8_seen_94 : decode cX8_seen 94 = .ok (.isub, 1) := by decide +kernel
theorem dX8_seen_95 : decode cX8_seen 95 = .ok (.invokestatic 80, 3) := by decide +kernel
theorem dX8_seen_98 : decode cX8_seen 98 = .ok (.ifCond .eq 25, 3) := by decide +kernel
theorem dX8_seen_101 : decode cX8_seen 101 = .ok (.iload 4, 2) := by decide +kernel
theorem dX8_seen_103 : decode cX8_seen 103 = .ok (.iconst 0, 1) := by decide +kernel
theorem dX8_seen_104 : decode cX8_seen 104 = .ok (.aload_n 0, 1) := by decide +kernel
theorem dX8_seen_105 : decode cX8_seen 105 = .ok (.getfield 49, 3) := by decide +kernel
theorem dX8_seen_108 : decode cX8_seen 108 = .ok (.iload 6, 2) := by decide +kernel
theorem dX8_seen_110 : decode cX8_seen 110 = .ok (.iaload, 1) := by decide +kernel
theorem dX8_seen_111 : decode cX8_seen 111 = .ok (.iconst 1, 1) := by decide +kernel
theorem dX8_seen_112 : decode cX8_seen 112 = .ok (.isub, 1) := by decide +kernel
theorem dX8_seen_113 : decode cX8_seen 113 = .ok (.invokestatic 80, 3) := by decide +kernel
theorem dX8_seen_116 : decode cX8_seen 116 = .ok (.ifCond .eq 7, 3) := by decide +kernel
theorem dX8_seen_119 : decode cX8_seen 119 = .ok (.iconst 0, 1) := by decide +kernel
theorem dX8_seen_120 : decode cX8_seen 120 = .ok (.goto 4, 3) := by decide +kernel
theorem dX8_seen_123 : decode cX8_seen 123 = .ok (.iconst 1, 1) := by decide +kernel
theorem dX8_seen_124 : decode cX8_seen 124 = .ok (.invokevirtual 84, 3) := by decide +kernel
theorem dX8_seen_127 : decode cX8_seen 127 = .ok (.ifCond .eq 5, 3) := by decide +kernel
theorem dX8_seen_130 : decode cX8_seen 130 = .ok (.iconst 0, 1) := by decide +kernel
theorem dX8_seen_131 : decode cX8_seen 131 = .ok (.ireturn, 1) := by decide +kernel
theorem dX8_seen_132 : decode cX8_seen 132 = .ok (.aload_n 0, 1) := by decide +kernel
theorem dX8_seen_133 : decode cX8_seen 133 = .ok (.getfield 70, 3) := by decide +kernel
theorem dX8_seen_136 : decode cX8_seen 136 = .ok (.bipush 24, 2) := by decide +kernel
theorem dX8_seen_138 : decode cX8_seen 138 = .ok (.iload 6, 2) := by decide +kernel
theorem dX8_seen_140 : decode cX8_seen 140 = .ok (.imul, 1) := by decide +kernel
theorem dX8_seen_141 : decode cX8_seen 141 = .ok (.iload_n 3, 1) := by decide +kernel
theorem dX8_seen_142 : decode cX8_seen 142 = .ok (.iload 8, 2) := by decide +kernel
theorem dX8_seen_144 : decode cX8_seen 144 = .ok (.idiv, 1) := by decide +kernel
theorem dX8_seen_145 : decode cX8_seen 145 = .ok (.iadd, 1) := by decide +kernel
theorem dX8_seen_146 : decode cX8_seen 146 = .ok (.iaload, 1) := by decide +kernel
theorem dX8_seen_147 : decode cX8_seen 147 = .ok (.iload 4, 2) := by decide +kernel
theorem dX8_seen_149 : decode cX8_seen 149 = .ok (.iadd, 1) := by decide +kernel
theorem dX8_seen_150 : decode cX8_seen 150 = .ok (.istore 9, 2) := by decide +kernel
theorem dX8_seen_152 : decode cX8_seen 152 = .ok (.aload_n 0, 1) := by decide +kernel
theorem dX8_seen_153 : decode cX8_seen 153 = .ok (.getfield 28, 3) := by decide +kernel
theorem dX8_seen_156 : decode cX8_seen 156 = .ok (.bipush 100, 2) := by decide +kernel
theorem dX8_seen_158 : decode cX8_seen 158 = .ok (.iload 7, 2) := by decide +kernel
theorem dX8_seen_160 : decode cX8_seen 160 = .ok (.imul, 1) := by decide +kernel
theorem dX8_seen_161 : decode cX8_seen 161 = .ok (.bipush 10, 2) := by decide +kernel
theorem dX8_seen_163 : decode cX8_seen 163 = .ok (.iload 9, 2) := by decide +kernel
theorem dX8_seen_165 : decode cX8_seen 165 = .ok (.aload_n 0, 1) := by decide +kernel
theorem dX8_seen_166 : decode cX8_seen 166 = .ok (.aload_n 0, 1) := by decide +kernel
theorem dX8_seen_167 : decode cX8_seen 167 = .ok (.getfield 22, 3) := by decide +kernel
theorem dX8_seen_170 : decode cX8_seen 170 = .ok (.iload 7, 2) := by decide +kernel
theorem dX8_seen_172 : decode cX8_seen 172 = .ok (.iaload, 1) := by decide +kernel
theorem dX8_seen_173 : decode cX8_seen 173 = .ok (.invokevirtual 99, 3) := by decide +kernel
theorem dX8_seen_176 : decode cX8_seen 176 = .ok (.irem, 1) := by decide +kernel
theorem dX8_seen_177 : decode cX8_seen 177 = .ok (.imul, 1) := by decide +kernel
theorem dX8_seen_178 : decode cX8_seen 178 = .ok (.iadd, 1) := by decide +kernel
theorem dX8_seen_179 : decode cX8_seen 179 = .ok (.iload_n 3, 1) := by decide +kernel
theorem dX8_seen_180 : decode cX8_seen 180 = .ok (.iload 8, 2) := by decide +kernel
theorem dX8_seen_182 : decode cX8_seen 182 = .ok (.irem, 1) := by decide +kernel
theorem dX8_seen_183 : decode cX8_seen 183 = .ok (.iadd, 1) := by decide +kernel
theorem dX8_seen_184 : decode cX8_seen 184 = .ok (.iaload, 1) := by decide +kernel
theorem dX8_seen_185 : decode cX8_seen 185 = .ok (.ireturn, 1) := by decide +kernel
theorem dX8_lost_0 : decode cX8_lost 0 = .ok (.aload_n 0, 1) := by decide +kernel
theorem dX8_lost_1 : decode cX8_lost 1 = .ok (.iconst 0, 1) := by decide +kernel
theorem dX8_lost_2 : decode cX8_lost 2 = .ok (.putfield 73, 3) := by decide +kernel
theorem dX8_lost_5 : decode cX8_lost 5 = .ok (.aload_n 0, 1) := by decide +kernel
theorem dX8_lost_6 : decode cX8_lost 6 = .ok (.getfield 148, 3) := by decide +kernel
theorem dX8_lost_9 : decode cX8_lost 9 = .ok (.ireturn, 1) := by decide +kernel
theorem dJ9_floorMod_7cf53_0 : decode cJ9_floorMod_7cf53 0 = .ok (.iload_n 0, 1) := by decide +kernel
theorem dJ9_floorMod_7cf53_1 : decode cJ9_floorMod_7cf53 1 = .ok (.iload_n 1, 1) := by decide +kernel
theorem dJ9_floorMod_7cf53_2 : decode cJ9_floorMod_7cf53 2 = .ok (.irem, 1) := by decide +kernel
theorem dJ9_floorMod_7cf53_3 : decode cJ9_floorMod_7cf53 3 = .ok (.istore_n 2, 1) := by decide +kernel
theorem dJ9_floorMod_7cf53_4 : decode cJ9_floorMod_7cf53 4 = .ok (.iload_n 0, 1) := by decide +kernel
theorem dJ9_floorMod_7cf53_5 : decode cJ9_floorMod_7cf53 5 = .ok (.iload_n 1, 1) := by decide +kernel
theorem dJ9_floorMod_7cf53_6 : decode cJ9_floorMod_7cf53 6 = .ok (.ixor, 1) := by decide +kernel
theorem dJ9_floorMod_7cf53_7 : decode cJ9_floorMod_7cf53 7 = .ok (.ifCond .ge 11, 3) := by decide +kernel
theorem dJ9_floorMod_7cf53_10 : decode cJ9_floorMod_7cf53 10 = .ok (.iload_n 2, 1) := by decide +kernel
theorem dJ9_floorMod_7cf53_11 : decode cJ9_floorMod_7cf53 11 = .ok (.ifCond .eq 7, 3) := by decide +kernel
theorem dJ9_floorMod_7cf53_14 : decode cJ9_floorMod_7cf53 14 = .ok (.iload_n 2, 1) := by decide +kernel
theorem dJ9_floorMod_7cf53_15 : decode cJ9_floorMod_7cf53 15 = .ok (.iload_n 1, 1) := by decide +kernel
theorem dJ9_floorMod_7cf53_16 : decode cJ9_floorMod_7cf53 16 = .ok (.iadd, 1) := by decide +kernel
theorem dJ9_floorMod_7cf53_17 : decode cJ9_floorMod_7cf53 17 = .ok (.ireturn, 1) := by decide +kernel
theorem dJ9_floorMod_7cf53_18 : decode cJ9_floorMod_7cf53 18 = .ok (.iload_n 2, 1) := by decide +kernel
theorem dJ9_floorMod_7cf53_19 : decode cJ9_floorMod_7cf53 19 = .ok (.ireturn, 1) := by decide +kernel
theorem dJ9_max_7cf53_0 : decode cJ9_max_7cf53 0 = .ok (.iload_n 0, 1) := by decide +kernel
theorem dJ9_max_7cf53_1 : decode cJ9_max_7cf53 1 = .ok (.iload_n 1, 1) := by decide +kernel
theorem dJ9_max_7cf53_2 : decode cJ9_max_7cf53 2 = .ok (.if_icmp .lt 7, 3) := by decide +kernel
theorem dJ9_max_7cf53_5 : decode cJ9_max_7cf53 5 = .ok (.iload_n 0, 1) := by decide +kernel
theorem dJ9_max_7cf53_6 : decode cJ9_max_7cf53 6 = .ok (.goto 4, 3) := by decide +kernel
theorem dJ9_max_7cf53_9 : decode cJ9_max_7cf53 9 = .ok (.iload_n 1, 1) := by decide +kernel
theorem dJ9_max_7cf53_10 : decode cJ9_max_7cf53 10 = .ok (.ireturn, 1) := by decide +kernel
theorem dL_pattern_0 : decode cL_pattern 0 = .ok (.aload 4, 2) := by decide +kernel
theorem dL_pattern_2 : decode cL_pattern 2 = .ok (.iconst 0, 1) := by decide +kernel
theorem dL_pattern_3 : decode cL_pattern 3 = .ok (.aload_n 0, 1) := by decide +kernel
theorem dL_pattern_4 : decode cL_pattern 4 = .ok (.iload_n 1, 1) := by decide +kernel
theorem dL_pattern_5 : decode cL_pattern 5 = .ok (.iload_n 2, 1) := by decide +kernel
theorem dL_pattern_6 : decode cL_pattern 6 = .ok (.iload_n 3, 1) := by decide +kernel
theorem dL_pattern_7 : decode cL_pattern 7 = .ok (.invokevirtual 7, 3) := by decide +kernel
theorem dL_pattern_10 : decode cL_pattern 10 = .ok (.i2l, 1) := by decide +kernel
theorem dL_pattern_11 : decode cL_pattern 11 = .ok (.lastore, 1) := by decide +kernel
theorem dL_pattern_12 : decode cL_pattern 12 = .ok (.goto 11, 3) := by decide +kernel
theorem dL_pattern_15 : decode cL_pattern 15 = .ok (.astore 5, 2) := by decide +kernel
theorem dL_pattern_17 : decode cL_pattern 17 = .ok (.iconst 1, 1) := by decide +kernel
theorem dL_pattern_18 : decode cL_pattern 18 = .ok (.ireturn, 1) := by decide +kernel
theorem dL_pattern_19 : decode cL_pattern 19 = .ok (.astore 5, 2) := by decide +kernel
theorem dL_pattern_21 : decode cL_pattern 21 = .ok (.iconst 2, 1) := by decide +kernel
theorem dL_pattern_22 : decode cL_pattern 22 = .ok (.ireturn, 1) := by decide +kernel
theorem dL_pattern_23 : decode cL_pattern 23 = .ok (.iconst 0, 1) := by decide +kernel
theorem dL_pattern_24 : decode cL_pattern 24 = .ok (.ireturn, 1) := by decide +kernel
theorem dL_paint_0 : decode cL_paint 0 = .ok (.aload 5, 2) := by decide +kernel
theorem dL_paint_2 : decode cL_paint 2 = .ok (.iconst 0, 1) := by decide +kernel
theorem dL_paint_3 : decode cL_paint 3 = .ok (.aload_n 0, 1) := by decide +kernel
theorem dL_paint_4 : decode cL_paint 4 = .ok (.iload_n 1, 1) := by decide +kernel
theorem dL_paint_5 : decode cL_paint 5 = .ok (.iload_n 2, 1) := by decide +kernel
theorem dL_paint_6 : decode cL_paint 6 = .ok (.iload_n 3, 1) := by decide +kernel
theorem dL_paint_7 : decode cL_paint 7 = .ok (.iload 4, 2) := by decide +kernel
theorem dL_paint_9 : decode cL_paint 9 = .ok (.invokevirtual 17, 3) := by decide +kernel
theorem dL_paint_12 : decode cL_paint 12 = .ok (.i2l, 1) := by decide +kernel
theorem dL_paint_13 : decode cL_paint 13 = .ok (.lastore, 1) := by decide +kernel
theorem dL_paint_14 : decode cL_paint 14 = .ok (.goto 11, 3) := by decide +kernel
theorem dL_paint_17 : decode cL_paint 17 = .ok (.astore 6, 2) := by decide +kernel
theorem dL_paint_19 : decode cL_paint 19 = .ok (.iconst 1, 1) := by decide +kernel
theorem dL_paint_20 : decode cL_paint 20 = .ok (.ireturn, 1) := by decide +kernel
theorem dL_paint_21 : decode cL_paint 21 = .ok (.astore 6, 2) := by decide +kernel
theorem dL_paint_23 : decode cL_paint 23 = .ok (.iconst 2, 1) := by decide +kernel
theorem dL_paint_24 : decode cL_paint 24 = .ok (.ireturn, 1) := by decide +kernel
theorem dL_paint_25 : decode cL_paint 25 = .ok (.iconst 0, 1) := by decide +kernel
theorem dL_paint_26 : decode cL_paint 26 = .ok (.ireturn, 1) := by decide +kernel
theorem dL_colour_0 : decode cL_colour 0 = .ok (.aload 4, 2) := by decide +kernel
theorem dL_colour_2 : decode cL_colour 2 = .ok (.iconst 0, 1) := by decide +kernel
theorem dL_colour_3 : decode cL_colour 3 = .ok (.aload_n 0, 1) := by decide +kernel
theorem dL_colour_4 : decode cL_colour 4 = .ok (.iload_n 1, 1) := by decide +kernel
theorem dL_colour_5 : decode cL_colour 5 = .ok (.iload_n 2, 1) := by decide +kernel
theorem dL_colour_6 : decode cL_colour 6 = .ok (.iload_n 3, 1) := by decide +kernel
theorem dL_colour_7 : decode cL_colour 7 = .ok (.invokevirtual 23, 3) := by decide +kernel
theorem dL_colour_10 : decode cL_colour 10 = .ok (.i2l, 1) := by decide +kernel
theorem dL_colour_11 : decode cL_colour 11 = .ok (.lastore, 1) := by decide +kernel
theorem dL_colour_12 : decode cL_colour 12 = .ok (.goto 7, 3) := by decide +kernel
theorem dL_colour_15 : decode cL_colour 15 = .ok (.astore 5, 2) := by decide +kernel
theorem dL_colour_17 : decode cL_colour 17 = .ok (.iconst 1, 1) := by decide +kernel
theorem dL_colour_18 : decode cL_colour 18 = .ok (.ireturn, 1) := by decide +kernel
theorem dL_colour_19 : decode cL_colour 19 = .ok (.iconst 0, 1) := by decide +kernel
theorem dL_colour_20 : decode cL_colour 20 = .ok (.ireturn, 1) := by decide +kernel
theorem dL_repeat_0 : decode cL_repeat 0 = .ok (.aload_n 3, 1) := by decide +kernel
theorem dL_repeat_1 : decode cL_repeat 1 = .ok (.iconst 0, 1) := by decide +kernel
theorem dL_repeat_2 : decode cL_repeat 2 = .ok (.aload_n 0, 1) := by decide +kernel
theorem dL_repeat_3 : decode cL_repeat 3 = .ok (.iload_n 1, 1) := by decide +kernel
theorem dL_repeat_4 : decode cL_repeat 4 = .ok (.iload_n 2, 1) := by decide +kernel
theorem dL_repeat_5 : decode cL_repeat 5 = .ok (.invokevirtual 26, 3) := by decide +kernel
theorem dL_repeat_8 : decode cL_repeat 8 = .ok (.i2l, 1) := by decide +kernel
theorem dL_repeat_9 : decode cL_repeat 9 = .ok (.lastore, 1) := by decide +kernel
theorem dL_repeat_10 : decode cL_repeat 10 = .ok (.goto 7, 3) := by decide +kernel
theorem dL_repeat_13 : decode cL_repeat 13 = .ok (.astore 4, 2) := by decide +kernel
theorem dL_repeat_15 : decode cL_repeat 15 = .ok (.iconst 1, 1) := by decide +kernel
theorem dL_repeat_16 : decode cL_repeat 16 = .ok (.ireturn, 1) := by decide +kernel
theorem dL_repeat_17 : decode cL_repeat 17 = .ok (.iconst 0, 1) := by decide +kernel
theorem dL_repeat_18 : decode cL_repeat 18 = .ok (.ireturn, 1) := by decide +kernel
theorem dL_repeatAnew_0 : decode cL_repeatAnew 0 = .ok (.aload_n 3, 1) := by decide +kernel
theorem dL_repeatAnew_1 : decode cL_repeatAnew 1 = .ok (.iconst 0, 1) := by decide +kernel
theorem dL_repeatAnew_2 : decode cL_repeatAnew 2 = .ok (.aload_n 0, 1) := by decide +kernel
theorem dL_repeatAnew_3 : decode cL_repeatAnew 3 = .ok (.iload_n 1, 1) := by decide +kernel
theorem dL_repeatAnew_4 : decode cL_repeatAnew 4 = .ok (.iload_n 2, 1) := by decide +kernel
theorem dL_repeatAnew_5 : decode cL_repeatAnew 5 = .ok (.invokevirtual 30, 3) := by decide +kernel
theorem dL_repeatAnew_8 : decode cL_repeatAnew 8 = .ok (.i2l, 1) := by decide +kernel
theorem dL_repeatAnew_9 : decode cL_repeatAnew 9 = .ok (.lastore, 1) := by decide +kernel
theorem dL_repeatAnew_10 : decode cL_repeatAnew 10 = .ok (.goto 7, 3) := by decide +kernel
theorem dL_repeatAnew_13 : decode cL_repeatAnew 13 = .ok (.astore 4, 2) := by decide +kernel
theorem dL_repeatAnew_15 : decode cL_repeatAnew 15 = .ok (.iconst 1, 1) := by decide +kernel
theorem dL_repeatAnew_16 : decode cL_repeatAnew 16 = .ok (.ireturn, 1) := by decide +kernel
theorem dL_repeatAnew_17 : decode cL_repeatAnew 17 = .ok (.iconst 0, 1) := by decide +kernel
theorem dL_repeatAnew_18 : decode cL_repeatAnew 18 = .ok (.ireturn, 1) := by decide +kernel
theorem dL_roller_0 : decode cL_roller 0 = .ok (.aload_n 3, 1) := by decide +kernel
theorem dL_roller_1 : decode cL_roller 1 = .ok (.iconst 0, 1) := by decide +kernel
theorem dL_roller_2 : decode cL_roller 2 = .ok (.aload_n 0, 1) := by decide +kernel
theorem dL_roller_3 : decode cL_roller 3 = .ok (.iload_n 1, 1) := by decide +kernel
theorem dL_roller_4 : decode cL_roller 4 = .ok (.iload_n 2, 1) := by decide +kernel
theorem dL_roller_5 : decode cL_roller 5 = .ok (.invokevirtual 33, 3) := by decide +kernel
theorem dL_roller_8 : decode cL_roller 8 = .ok (.i2l, 1) := by decide +kernel
theorem dL_roller_9 : decode cL_roller 9 = .ok (.lastore, 1) := by decide +kernel
theorem dL_roller_10 : decode cL_roller 10 = .ok (.goto 15, 3) := by decide +kernel
theorem dL_roller_13 : decode cL_roller 13 = .ok (.astore 4, 2) := by decide +kernel
theorem dL_roller_15 : decode cL_roller 15 = .ok (.iconst 1, 1) := by decide +kernel
theorem dL_roller_16 : decode cL_roller 16 = .ok (.ireturn, 1) := by decide +kernel
theorem dL_roller_17 : decode cL_roller 17 = .ok (.astore 4, 2) := by decide +kernel
theorem dL_roller_19 : decode cL_roller 19 = .ok (.iconst 2, 1) := by decide +kernel
theorem dL_roller_20 : decode cL_roller 20 = .ok (.ireturn, 1) := by decide +kernel
theorem dL_roller_21 : decode cL_roller 21 = .ok (.astore 4, 2) := by decide +kernel
theorem dL_roller_23 : decode cL_roller 23 = .ok (.iconst 3, 1) := by decide +kernel
theorem dL_roller_24 : decode cL_roller 24 = .ok (.ireturn, 1) := by decide +kernel
theorem dL_roller_25 : decode cL_roller 25 = .ok (.iconst 0, 1) := by decide +kernel
theorem dL_roller_26 : decode cL_roller 26 = .ok (.ireturn, 1) := by decide +kernel
theorem dL_lot_0 : decode cL_lot 0 = .ok (.aload 5, 2) := by decide +kernel
theorem dL_lot_2 : decode cL_lot 2 = .ok (.iconst 0, 1) := by decide +kernel
theorem dL_lot_3 : decode cL_lot 3 = .ok (.aload_n 0, 1) := by decide +kernel
theorem dL_lot_4 : decode cL_lot 4 = .ok (.iload_n 1, 1) := by decide +kernel
theorem dL_lot_5 : decode cL_lot 5 = .ok (.iload_n 2, 1) := by decide +kernel
theorem dL_lot_6 : decode cL_lot 6 = .ok (.iload_n 3, 1) := by decide +kernel
theorem dL_lot_7 : decode cL_lot 7 = .ok (.iload 4, 2) := by decide +kernel
theorem dL_lot_9 : decode cL_lot 9 = .ok (.invokevirtual 37, 3) := by decide +kernel
theorem dL_lot_12 : decode cL_lot 12 = .ok (.i2l, 1) := by decide +kernel
theorem dL_lot_13 : decode cL_lot 13 = .ok (.lastore, 1) := by decide +kernel
theorem dL_lot_14 : decode cL_lot 14 = .ok (.goto 15, 3) := by decide +kernel
theorem dL_lot_17 : decode cL_lot 17 = .ok (.astore 6, 2) := by decide +kernel
theorem dL_lot_19 : decode cL_lot 19 = .ok (.iconst 1, 1) := by decide +kernel
theorem dL_lot_20 : decode cL_lot 20 = .ok (.ireturn, 1) := by decide +kernel
theorem dL_lot_21 : decode cL_lot 21 = .ok (.astore 6, 2) := by decide +kernel
theorem dL_lot_23 : decode cL_lot 23 = .ok (.iconst 2, 1) := by decide +kernel
theorem dL_lot_24 : decode cL_lot 24 = .ok (.ireturn, 1) := by decide +kernel
theorem dL_lot_25 : decode cL_lot 25 = .ok (.astore 6, 2) := by decide +kernel
theorem dL_lot_27 : decode cL_lot 27 = .ok (.iconst 3, 1) := by decide +kernel
theorem dL_lot_28 : decode cL_lot 28 = .ok (.ireturn, 1) := by decide +kernel
theorem dL_lot_29 : decode cL_lot 29 = .ok (.iconst 0, 1) := by decide +kernel
theorem dL_lot_30 : decode cL_lot 30 = .ok (.ireturn, 1) := by decide +kernel
theorem dL_lotOf_0 : decode cL_lotOf 0 = .ok (.aload_n 3, 1) := by decide +kernel
theorem dL_lotOf_1 : decode cL_lotOf 1 = .ok (.iconst 0, 1) := by decide +kernel
theorem dL_lotOf_2 : decode cL_lotOf 2 = .ok (.aload_n 0, 1) := by decide +kernel
theorem dL_lotOf_3 : decode cL_lotOf 3 = .ok (.iload_n 1, 1) := by decide +kernel
theorem dL_lotOf_4 : decode cL_lotOf 4 = .ok (.iload_n 2, 1) := by decide +kernel
theorem dL_lotOf_5 : decode cL_lotOf 5 = .ok (.invokevirtual 40, 3) := by decide +kernel
theorem dL_lotOf_8 : decode cL_lotOf 8 = .ok (.i2l, 1) := by decide +kernel
theorem dL_lotOf_9 : decode cL_lotOf 9 = .ok (.lastore, 1) := by decide +kernel
theorem dL_lotOf_10 : decode cL_lotOf 10 = .ok (.goto 11, 3) := by decide +kernel
theorem dL_lotOf_13 : decode cL_lotOf 13 = .ok (.astore 4, 2) := by decide +kernel
theorem dL_lotOf_15 : decode cL_lotOf 15 = .ok (.iconst 1, 1) := by decide +kernel
theorem dL_lotOf_16 : decode cL_lotOf 16 = .ok (.ireturn, 1) := by decide +kernel
theorem dL_lotOf_17 : decode cL_lotOf 17 = .ok (.astore 4, 2) := by decide +kernel
theorem dL_lotOf_19 : decode cL_lotOf 19 = .ok (.iconst 2, 1) := by decide +kernel
theorem dL_lotOf_20 : decode cL_lotOf 20 = .ok (.ireturn, 1) := by decide +kernel
theorem dL_lotOf_21 : decode cL_lotOf 21 = .ok (.iconst 0, 1) := by decide +kernel
theorem dL_lotOf_22 : decode cL_lotOf 22 = .ok (.ireturn, 1) := by decide +kernel
theorem dL_wall_0 : decode cL_wall 0 = .ok (.aload 4, 2) := by decide +kernel
theorem dL_wall_2 : decode cL_wall 2 = .ok (.iconst 0, 1) := by decide +kernel
theorem dL_wall_3 : decode cL_wall 3 = .ok (.aload_n 0, 1) := by decide +kernel
theorem dL_wall_4 : decode cL_wall 4 = .ok (.iload_n 1, 1) := by decide +kernel
theorem dL_wall_5 : decode cL_wall 5 = .ok (.iload_n 2, 1) := by decide +kernel
theorem dL_wall_6 : decode cL_wall 6 = .ok (.iload_n 3, 1) := by decide +kernel
theorem dL_wall_7 : decode cL_wall 7 = .ok (.invokevirtual 43, 3) := by decide +kernel
theorem dL_wall_10 : decode cL_wall 10 = .ok (.i2l, 1) := by decide +kernel
theorem dL_wall_11 : decode cL_wall 11 = .ok (.lastore, 1) := by decide +kernel
theorem dL_wall_12 : decode cL_wall 12 = .ok (.goto 15, 3) := by decide +kernel
theorem dL_wall_15 : decode cL_wall 15 = .ok (.astore 5, 2) := by decide +kernel
theorem dL_wall_17 : decode cL_wall 17 = .ok (.iconst 1, 1) := by decide +kernel
theorem dL_wall_18 : decode cL_wall 18 = .ok (.ireturn, 1) := by decide +kernel
theorem dL_wall_19 : decode cL_wall 19 = .ok (.astore 5, 2) := by decide +kernel
theorem dL_wall_21 : decode cL_wall 21 = .ok (.iconst 2, 1) := by decide +kernel
theorem dL_wall_22 : decode cL_wall 22 = .ok (.ireturn, 1) := by decide +kernel
theorem dL_wall_23 : decode cL_wall 23 = .ok (.astore 5, 2) := by decide +kernel
theorem dL_wall_25 : decode cL_wall 25 = .ok (.iconst 3, 1) := by decide +kernel
theorem dL_wall_26 : decode cL_wall 26 = .ok (.ireturn, 1) := by decide +kernel
theorem dL_wall_27 : decode cL_wall 27 = .ok (.iconst 0, 1) := by decide +kernel
theorem dL_wall_28 : decode cL_wall 28 = .ok (.ireturn, 1) := by decide +kernel
theorem dL_hang_0 : decode cL_hang 0 = .ok (.aload_n 3, 1) := by decide +kernel
theorem dL_hang_1 : decode cL_hang 1 = .ok (.iconst 0, 1) := by decide +kernel
theorem dL_hang_2 : decode cL_hang 2 = .ok (.aload_n 0, 1) := by decide +kernel
theorem dL_hang_3 : decode cL_hang 3 = .ok (.iload_n 1, 1) := by decide +kernel
theorem dL_hang_4 : decode cL_hang 4 = .ok (.iload_n 2, 1) := by decide +kernel
theorem dL_hang_5 : decode cL_hang 5 = .ok (.invokevirtual 46, 3) := by decide +kernel
theorem dL_hang_8 : decode cL_hang 8 = .ok (.i2l, 1) := by decide +kernel
theorem dL_hang_9 : decode cL_hang 9 = .ok (.lastore, 1) := by decide +kernel
theorem dL_hang_10 : decode cL_hang 10 = .ok (.goto 11, 3) := by decide +kernel
theorem dL_hang_13 : decode cL_hang 13 = .ok (.astore 4, 2) := by decide +kernel
theorem dL_hang_15 : decode cL_hang 15 = .ok (.iconst 1, 1) := by decide +kernel
theorem dL_hang_16 : decode cL_hang 16 = .ok (.ireturn, 1) := by decide +kernel
theorem dL_hang_17 : decode cL_hang 17 = .ok (.astore 4, 2) := by decide +kernel
theorem dL_hang_19 : decode cL_hang 19 = .ok (.iconst 2, 1) := by decide +kernel
theorem dL_hang_20 : decode cL_hang 20 = .ok (.ireturn, 1) := by decide +kernel
theorem dL_hang_21 : decode cL_hang 21 = .ok (.iconst 0, 1) := by decide +kernel
theorem dL_hang_22 : decode cL_hang 22 = .ok (.ireturn, 1) := by decide +kernel
theorem dL_lengthen_0 : decode cL_lengthen 0 = .ok (.aload 4, 2) := by decide +kernel
theorem dL_lengthen_2 : decode cL_lengthen 2 = .ok (.iconst 0, 1) := by decide +kernel
theorem dL_lengthen_3 : decode cL_lengthen 3 = .ok (.aload_n 0, 1) := by decide +kernel
theorem dL_lengthen_4 : decode cL_lengthen 4 = .ok (.iload_n 1, 1) := by decide +kernel
theorem dL_lengthen_5 : decode cL_lengthen 5 = .ok (.iload_n 2, 1) := by decide +kernel
theorem dL_lengthen_6 : decode cL_lengthen 6 = .ok (.iload_n 3, 1) := by decide +kernel
theorem dL_lengthen_7 : decode cL_lengthen 7 = .ok (.invokevirtual 49, 3) := by decide +kernel
theorem dL_lengthen_10 : decode cL_lengthen 10 = .ok (.i2l, 1) := by decide +kernel
theorem dL_lengthen_11 : decode cL_lengthen 11 = .ok (.lastore, 1) := by decide +kernel
theorem dL_lengthen_12 : decode cL_lengthen 12 = .ok (.goto 15, 3) := by decide +kernel
theorem dL_lengthen_15 : decode cL_lengthen 15 = .ok (.astore 5, 2) := by decide +kernel
theorem dL_lengthen_17 : decode cL_lengthen 17 = .ok (.iconst 1, 1) := by decide +kernel
theorem dL_lengthen_18 : decode cL_lengthen 18 = .ok (.ireturn, 1) := by decide +kernel
theorem dL_lengthen_19 : decode cL_lengthen 19 = .ok (.astore 5, 2) := by decide +kernel
theorem dL_lengthen_21 : decode cL_lengthen 21 = .ok (.iconst 2, 1) := by decide +kernel
theorem dL_lengthen_22 : decode cL_lengthen 22 = .ok (.ireturn, 1) := by decide +kernel
theorem dL_lengthen_23 : decode cL_lengthen 23 = .ok (.astore 5, 2) := by decide +kernel
theorem dL_lengthen_25 : decode cL_lengthen 25 = .ok (.iconst 3, 1) := by decide +kernel
theorem dL_lengthen_26 : decode cL_lengthen 26 = .ok (.ireturn, 1) := by decide +kernel
theorem dL_lengthen_27 : decode cL_lengthen 27 = .ok (.iconst 0, 1) := by decide +kernel
theorem dL_lengthen_28 : decode cL_lengthen 28 = .ok (.ireturn, 1) := by decide +kernel
theorem dL_strip_0 : decode cL_strip 0 = .ok (.aload_n 2, 1) := by decide +kernel
theorem dL_strip_1 : decode cL_strip 1 = .ok (.iconst 0, 1) := by decide +kernel
theorem dL_strip_2 : decode cL_strip 2 = .ok (.aload_n 0, 1) := by decide +kernel
theorem dL_strip_3 : decode cL_strip 3 = .ok (.iload_n 1, 1) := by decide +kernel
theorem dL_strip_4 : decode cL_strip 4 = .ok (.invokevirtual 52, 3) := by decide +kernel
theorem dL_strip_7 : decode cL_strip 7 = .ok (.i2l, 1) := by decide +kernel
theorem dL_strip_8 : decode cL_strip 8 = .ok (.lastore, 1) := by decide +kernel
theorem dL_strip_9 : decode cL_strip 9 = .ok (.goto 9, 3) := by decide +kernel
theorem dL_strip_12 : decode cL_strip 12 = .ok (.astore_n 3, 1) := by decide +kernel
theorem dL_strip_13 : decode cL_strip 13 = .ok (.iconst 1, 1) := by decide +kernel
theorem dL_strip_14 : decode cL_strip 14 = .ok (.ireturn, 1) := by decide +kernel
theorem dL_strip_15 : decode cL_strip 15 = .ok (.astore_n 3, 1) := by decide +kernel
theorem dL_strip_16 : decode cL_strip 16 = .ok (.iconst 2, 1) := by decide +kernel
theorem dL_strip_17 : decode cL_strip 17 = .ok (.ireturn, 1) := by decide +kernel
theorem dL_strip_18 : decode cL_strip 18 = .ok (.iconst 0, 1) := by decide +kernel
theorem dL_strip_19 : decode cL_strip 19 = .ok (.ireturn, 1) := by decide +kernel
theorem dL_room_0 : decode cL_room 0 = .ok (.aload_n 3, 1) := by decide +kernel
theorem dL_room_1 : decode cL_room 1 = .ok (.iconst 0, 1) := by decide +kernel
theorem dL_room_2 : decode cL_room 2 = .ok (.aload_n 0, 1) := by decide +kernel
theorem dL_room_3 : decode cL_room 3 = .ok (.iload_n 1, 1) := by decide +kernel
theorem dL_room_4 : decode cL_room 4 = .ok (.iload_n 2, 1) := by decide +kernel
theorem dL_room_5 : decode cL_room 5 = .ok (.invokevirtual 56, 3) := by decide +kernel
theorem dL_room_8 : decode cL_room 8 = .ok (.i2l, 1) := by decide +kernel
theorem dL_room_9 : decode cL_room 9 = .ok (.lastore, 1) := by decide +kernel
theorem dL_room_10 : decode cL_room 10 = .ok (.goto 11, 3) := by decide +kernel
theorem dL_room_13 : decode cL_room 13 = .ok (.astore 4, 2) := by decide +kernel
theorem dL_room_15 : decode cL_room 15 = .ok (.iconst 1, 1) := by decide +kernel
theorem dL_room_16 : decode cL_room 16 = .ok (.ireturn, 1) := by decide +kernel
theorem dL_room_17 : decode cL_room 17 = .ok (.astore 4, 2) := by decide +kernel
theorem dL_room_19 : decode cL_room 19 = .ok (.iconst 2, 1) := by decide +kernel
theorem dL_room_20 : decode cL_room 20 = .ok (.ireturn, 1) := by decide +kernel
theorem dL_room_21 : decode cL_room 21 = .ok (.iconst 0, 1) := by decide +kernel
theorem dL_room_22 : decode cL_room 22 = .ok (.ireturn, 1) := by decide +kernel
theorem dL_cut_0 : decode cL_cut 0 = .ok (.aload 4, 2) := by decide +kernel
theorem dL_cut_2 : decode cL_cut 2 = .ok (.iconst 0, 1) := by decide +kernel
theorem dL_cut_3 : decode cL_cut 3 = .ok (.aload_n 0, 1) := by decide +kernel
theorem dL_cut_4 : decode cL_cut 4 = .ok (.iload_n 1, 1) := by decide +kernel
theorem dL_cut_5 : decode cL_cut 5 = .ok (.iload_n 2, 1) := by decide +kernel
theorem dL_cut_6 : decode cL_cut 6 = .ok (.iload_n 3, 1) := by decide +kernel
theorem dL_cut_7 : decode cL_cut 7 = .ok (.invokevirtual 59, 3) := by decide +kernel
theorem dL_cut_10 : decode cL_cut 10 = .ok (.i2l, 1) := by decide +kernel
theorem dL_cut_11 : decode cL_cut 11 = .ok (.lastore, 1) := by decide +kernel
theorem dL_cut_12 : decode cL_cut 12 = .ok (.goto 7, 3) := by decide +kernel
theorem dL_cut_15 : decode cL_cut 15 = .ok (.astore 5, 2) := by decide +kernel
theorem dL_cut_17 : decode cL_cut 17 = .ok (.iconst 1, 1) := by decide +kernel
theorem dL_cut_18 : decode cL_cut 18 = .ok (.ireturn, 1) := by decide +kernel
theorem dL_cut_19 : decode cL_cut 19 = .ok (.iconst 0, 1) := by decide +kernel
theorem dL_cut_20 : decode cL_cut 20 = .ok (.ireturn, 1) := by decide +kernel
theorem dL_seen_0 : decode cL_seen 0 = .ok (.aload 5, 2) := by decide +kernel
theorem dL_seen_2 : decode cL_seen 2 = .ok (.iconst 0, 1) := by decide +kernel
theorem dL_seen_3 : decode cL_seen 3 = .ok (.aload_n 0, 1) := by decide +kernel
theorem dL_seen_4 : decode cL_seen 4 = .ok (.iload_n 1, 1) := by decide +kernel
theorem dL_seen_5 : decode cL_seen 5 = .ok (.iload_n 2, 1) := by decide +kernel
theorem dL_seen_6 : decode cL_seen 6 = .ok (.iload_n 3, 1) := by decide +kernel
theorem dL_seen_7 : decode cL_seen 7 = .ok (.iload 4, 2) := by decide +kernel
theorem dL_seen_9 : decode cL_seen 9 = .ok (.invokevirtual 62, 3) := by decide +kernel
theorem dL_seen_12 : decode cL_seen 12 = .ok (.i2l, 1) := by decide +kernel
theorem dL_seen_13 : decode cL_seen 13 = .ok (.lastore, 1) := by decide +kernel
theorem dL_seen_14 : decode cL_seen 14 = .ok (.goto 7, 3) := by decide +kernel
theorem dL_seen_17 : decode cL_seen 17 = .ok (.astore 6, 2) := by decide +kernel
theorem dL_seen_19 : decode cL_seen 19 = .ok (.iconst 1, 1) := by decide +kernel
theorem dL_seen_20 : decode cL_seen 20 = .ok (.ireturn, 1) := by decide +kernel
theorem dL_seen_21 : decode cL_seen 21 = .ok (.iconst 0, 1) := by decide +kernel
theorem dL_seen_22 : decode cL_seen 22 = .ok (.ireturn, 1) := by decide +kernel
theorem dL_law_0 : decode cL_law 0 = .ok (.new 8, 3) := by decide +kernel
theorem dL_law_3 : decode cL_law 3 = .ok (.dup, 1) := by decide +kernel
theorem dL_law_4 : decode cL_law 4 = .ok (.invokespecial 65, 3) := by decide +kernel
theorem dL_law_7 : decode cL_law 7 = .ok (.astore_n 1, 1) := by decide +kernel
theorem dL_law_8 : decode cL_law 8 = .ok (.new 66, 3) := by decide +kernel
theorem dL_law_11 : decode cL_law 11 = .ok (.dup, 1) := by decide +kernel
theorem dL_law_12 : decode cL_law 12 = .ok (.invokespecial 68, 3) := by decide +kernel
theorem dL_law_15 : decode cL_law 15 = .ok (.astore_n 2, 1) := by decide +kernel
theorem dL_law_16 : decode cL_law 16 = .ok (.iconst 1, 1) := by decide +kernel
theorem dL_law_17 : decode cL_law 17 = .ok (.newarray .long, 2) := by decide +kernel
theorem dL_law_19 : decode cL_law 19 = .ok (.astore_n 3, 1) := by decide +kernel
theorem dL_law_20 : decode cL_law 20 = .ok (.iconst 0, 1) := by decide +kernel
theorem dL_law_21 : decode cL_law 21 = .ok (.istore 4, 2) := by decide +kernel
theorem dL_law_23 : decode cL_law 23 = .ok (.iload 4, 2) := by decide +kernel
theorem dL_law_25 : decode cL_law 25 = .ok (.aload_n 0, 1) := by decide +kernel
theorem dL_law_26 : decode cL_law 26 = .ok (.arraylength, 1) := by decide +kernel
theorem dL_law_27 : decode cL_law 27 = .ok (.iconst 5, 1) := by decide +kernel
theorem dL_law_28 : decode cL_law 28 = .ok (.isub, 1) := by decide +kernel
theorem dL_law_29 : decode cL_law 29 = .ok (.if_icmp .gt 1278, 3) := by decide +kernel
theorem dL_law_32 : decode cL_law 32 = .ok (.aload_n 0, 1) := by decide +kernel
theorem dL_law_33 : decode cL_law 33 = .ok (.iload 4, 2) := by decide +kernel
theorem dL_law_35 : decode cL_law 35 = .ok (.iaload, 1) := by decide +kernel
theorem dL_law_36 : decode cL_law 36 = .ok (.bipush 15, 2) := by decide +kernel
theorem dL_law_38 : decode cL_law 38 = .ok (.iand, 1) := by decide +kernel
theorem dL_law_39 : decode cL_law 39 = .ok (.tableswitch 1262 0 15 #[77, 157, 249, 329, 413, 497, 565, 657, 725, 805, 873, 953, 1009, 1077, 1157, 1249], 77) := by decide +kernel
theorem dL_law_116 : decode cL_law 116 = .ok (.aload_n 1, 1) := by decide +kernel
theorem dL_law_117 : decode cL_law 117 = .ok (.aload_n 0, 1) := by decide +kernel
theorem dL_law_118 : decode cL_law 118 = .ok (.iload 4, 2) := by decide +kernel
theorem dL_law_120 : decode cL_law 120 = .ok (.iconst 1, 1) := by decide +kernel
theorem dL_law_121 : decode cL_law 121 = .ok (.iadd, 1) := by decide +kernel
theorem dL_law_122 : decode cL_law 122 = .ok (.iaload, 1) := by decide +kernel
theorem dL_law_123 : decode cL_law 123 = .ok (.aload_n 0, 1) := by decide +kernel
theorem dL_law_124 : decode cL_law 124 = .ok (.iload 4, 2) := by decide +kernel
theorem dL_law_126 : decode cL_law 126 = .ok (.iconst 2, 1) := by decide +kernel
theorem dL_law_127 : decode cL_law 127 = .ok (.iadd, 1) := by decide +kernel
theorem dL_law_128 : decode cL_law 128 = .ok (.iaload, 1) := by decide +kernel
theorem dL_law_129 : decode cL_law 129 = .ok (.aload_n 0, 1) := by decide +kernel
theorem dL_law_130 : decode cL_law 130 = .ok (.iload 4, 2) := by decide +kernel
theorem dL_law_132 : decode cL_law 132 = .ok (.iconst 3, 1) := by decide +kernel
theorem dL_law_133 : decode cL_law 133 = .ok (.iadd, 1) := by decide +kernel
theorem dL_law_134 : decode cL_law 134 = .ok (.iaload, 1) := by decide +kernel
theorem dL_law_135 : decode cL_law 135 = .ok (.aload_n 3, 1) := by decide +kernel
theorem dL_law_136 : decode cL_law 136 = .ok (.invokestatic 69, 3) := by decide +kernel
theorem dL_law_139 : decode cL_law 139 = .ok (.istore 5, 2) := by decide +kernel
theorem dL_law_141 : decode cL_law 141 = .ok (.aload_n 2, 1) := by decide +kernel
theorem dL_law_142 : decode cL_law 142 = .ok (.aload_n 0, 1) := by decide +kernel
theorem dL_law_143 : decode cL_law 143 = .ok (.iload 4, 2) := by decide +kernel
theorem dL_law_145 : decode cL_law 145 = .ok (.iconst 1, 1) := by decide +kernel
theorem dL_law_146 : decode cL_law 146 = .ok (.iadd, 1) := by decide +kernel
theorem dL_law_147 : decode cL_law 147 = .ok (.iaload, 1) := by decide +kernel
theorem dL_law_148 : decode cL_law 148 = .ok (.aload_n 0, 1) := by decide +kernel
theorem dL_law_149 : decode cL_law 149 = .ok (.iload 4, 2) := by decide +kernel
theorem dL_law_151 : decode cL_law 151 = .ok (.iconst 2, 1) := by decide +kernel
theorem dL_law_152 : decode cL_law 152 = .ok (.iadd, 1) := by decide +kernel
theorem dL_law_153 : decode cL_law 153 = .ok (.iaload, 1) := by decide +kernel
theorem dL_law_154 : decode cL_law 154 = .ok (.aload_n 0, 1) := by decide +kernel
theorem dL_law_155 : decode cL_law 155 = .ok (.iload 4, 2) := by decide +kernel
theorem dL_law_157 : decode cL_law 157 = .ok (.iconst 3, 1) := by decide +kernel
theorem dL_law_158 : decode cL_law 158 = .ok (.iadd, 1) := by decide +kernel
theorem dL_law_159 : decode cL_law 159 = .ok (.iaload, 1) := by decide +kernel
theorem dL_law_160 : decode cL_law 160 = .ok (.invokevirtual 74, 3) := by decide +kernel
theorem dL_law_163 : decode cL_law 163 = .ok (.istore 6, 2) := by decide +kernel
theorem dL_law_165 : decode cL_law 165 = .ok (.aload_n 2, 1) := by decide +kernel
theorem dL_law_166 : decode cL_law 166 = .ok (.invokevirtual 75, 3) := by decide +kernel
theorem dL_law_169 : decode cL_law 169 = .ok (.iload 5, 2) := by decide +kernel
theorem dL_law_171 : decode cL_law 171 = .ok (.if_icmp .eq 5, 3) := by decide +kernel
theorem dL_law_174 : decode cL_law 174 = .ok (.iconst 0, 1) := by decide +kernel
theorem dL_law_175 : decode cL_law 175 = .ok (.ireturn, 1) := by decide +kernel
theorem dL_law_176 : decode cL_law 176 = .ok (.iload 5, 2) := by decide +kernel
theorem dL_law_178 : decode cL_law 178 = .ok (.ifCond .ne 15, 3) := by decide +kernel
theorem dL_law_181 : decode cL_law 181 = .ok (.aload_n 3, 1) := by decide +kernel
theorem dL_law_182 : decode cL_law 182 = .ok (.iconst 0, 1) := by decide +kernel
theorem dL_law_183 : decode cL_law 183 = .ok (.laload, 1) := by decide +kernel
theorem dL_law_184 : decode cL_law 184 = .ok (.iload 6, 2) := by decide +kernel
theorem dL_law_186 : decode cL_law 186 = .ok (.i2l, 1) := by decide +kernel
theorem dL_law_187 : decode cL_law 187 = .ok (.lcmp, 1) := by decide +kernel
theorem dL_law_188 : decode cL_law 188 = .ok (.ifCond .eq 5, 3) := by decide +kernel
theorem dL_law_191 : decode cL_law 191 = .ok (.iconst 0, 1) := by decide +kernel
theorem dL_law_192 : decode cL_law 192 = .ok (.ireturn, 1) := by decide +kernel
theorem dL_law_193 : decode cL_law 193 = .ok (.goto 1108, 3) := by decide +kernel
theorem dL_law_196 : decode cL_law 196 = .ok (.aload_n 1, 1) := by decide +kernel
theorem dL_law_197 : decode cL_law 197 = .ok (.aload_n 0, 1) := by decide +kernel
theorem dL_law_198 : decode cL_law 198 = .ok (.iload 4, 2) := by decide +kernel
theorem dL_law_200 : decode cL_law 200 = .ok (.iconst 1, 1) := by decide +kernel
theorem dL_law_201 : decode cL_law 201 = .ok (.iadd, 1) := by decide +kernel
theorem dL_law_202 : decode cL_law 202 = .ok (.iaload, 1) := by decide +kernel
theorem dL_law_203 : decode cL_law 203 = .ok (.aload_n 0, 1) := by decide +kernel
theorem dL_law_204 : decode cL_law 204 = .ok (.iload 4, 2) := by decide +kernel
theorem dL_law_206 : decode cL_law 206 = .ok (.iconst 2, 1) := by decide +kernel
theorem dL_law_207 : decode cL_law 207 = .ok (.iadd, 1) := by decide +kernel
theorem dL_law_208 : decode cL_law 208 = .ok (.iaload, 1) := by decide +kernel
theorem dL_law_209 : decode cL_law 209 = .ok (.aload_n 0, 1) := by decide +kernel
theorem dL_law_210 : decode cL_law 210 = .ok (.iload 4, 2) := by decide +kernel
theorem dL_law_212 : decode cL_law 212 = .ok (.iconst 3, 1) := by decide +kernel
theorem dL_law_213 : decode cL_law 213 = .ok (.iadd, 1) := by decide +kernel
theorem dL_law_214 : decode cL_law 214 = .ok (.iaload, 1) := by decide +kernel
theorem dL_law_215 : decode cL_law 215 = .ok (.aload_n 0, 1) := by decide +kernel
theorem dL_law_216 : decode cL_law 216 = .ok (.iload 4, 2) := by decide +kernel
theorem dL_law_218 : decode cL_law 218 = .ok (.iconst 4, 1) := by decide +kernel
theorem dL_law_219 : decode cL_law 219 = .ok (.iadd, 1) := by decide +kernel
theorem dL_law_220 : decode cL_law 220 = .ok (.iaload, 1) := by decide +kernel
theorem dL_law_221 : decode cL_law 221 = .ok (.aload_n 3, 1) := by decide +kernel
theorem dL_law_222 : decode cL_law 222 = .ok (.invokestatic 79, 3) := by decide +kernel
theorem dL_law_225 : decode cL_law 225 = .ok (.istore 5, 2) := by decide +kernel
theorem dL_law_227 : decode cL_law 227 = .ok (.aload_n 2, 1) := by decide +kernel
theorem dL_law_228 : decode cL_law 228 = .ok (.aload_n 0, 1) := by decide +kernel
theorem dL_law_229 : decode cL_law 229 = .ok (.iload 4, 2) := by decide +kernel
theorem dL_law_231 : decode cL_law 231 = .ok (.iconst 1, 1) := by decide +kernel
theorem dL_law_232 : decode cL_law 232 = .ok (.iadd, 1) := by decide +kernel
theorem dL_law_233 : decode cL_law 233 = .ok (.iaload, 1) := by decide +kernel
theorem dL_law_234 : decode cL_law 234 = .ok (.aload_n 0, 1) := by decide +kernel
theorem dL_law_235 : decode cL_law 235 = .ok (.iload 4, 2) := by decide +kernel
theorem dL_law_237 : decode cL_law 237 = .ok (.iconst 2, 1) := by decide +kernel
theorem dL_law_238 : decode cL_law 238 = .ok (.iadd, 1) := by decide +kernel
theorem dL_law_239 : decode cL_law 239 = .ok (.iaload, 1) := by decide +kernel
theorem dL_law_240 : decode cL_law 240 = .ok (.aload_n 0, 1) := by decide +kernel
theorem dL_law_241 : decode cL_law 241 = .ok (.iload 4, 2) := by decide +kernel
theorem dL_law_243 : decode cL_law 243 = .ok (.iconst 3, 1) := by decide +kernel
theorem dL_law_244 : decode cL_law 244 = .ok (.iadd, 1) := by decide +kernel
theorem dL_law_245 : decode cL_law 245 = .ok (.iaload, 1) := by decide +kernel
theorem dL_law_246 : decode cL_law 246 = .ok (.aload_n 0, 1) := by decide +kernel
theorem dL_law_247 : decode cL_law 247 = .ok (.iload 4, 2) := by decide +kernel
theorem dL_law_249 : decode cL_law 249 = .ok (.iconst 4, 1) := by decide +kernel
theorem dL_law_250 : decode cL_law 250 = .ok (.iadd, 1) := by decide +kernel
theorem dL_law_251 : decode cL_law 251 = .ok (.iaload, 1) := by decide +kernel
theorem dL_law_252 : decode cL_law 252 = .ok (.invokevirtual 82, 3) := by decide +kernel
theorem dL_law_255 : decode cL_law 255 = .ok (.istore 6, 2) := by decide +kernel
theorem dL_law_257 : decode cL_law 257 = .ok (.aload_n 2, 1) := by decide +kernel
theorem dL_law_258 : decode cL_law 258 = .ok (.invokevirtual 75, 3) := by decide +kernel
theorem dL_law_261 : decode cL_law 261 = .ok (.iload 5, 2) := by decide +kernel
theorem dL_law_263 : decode cL_law 263 = .ok (.if_icmp .eq 5, 3) := by decide +kernel
theorem dL_law_266 : decode cL_law 266 = .ok (.iconst 0, 1) := by decide +kernel
theorem dL_law_267 : decode cL_law 267 = .ok (.ireturn, 1) := by decide +kernel
theorem dL_law_268 : decode cL_law 268 = .ok (.iload 5, 2) := by decide +kernel
theorem dL_law_270 : decode cL_law 270 = .ok (.ifCond .ne 15, 3) := by decide +kernel
theorem dL_law_273 : decode cL_law 273 = .ok (.aload_n 3, 1) := by decide +kernel
theorem dL_law_274 : decode cL_law 274 = .ok (.iconst 0, 1) := by decide +kernel
theorem dL_law_275 : decode cL_law 275 = .ok (.laload, 1) := by decide +kernel
theorem dL_law_276 : decode cL_law 276 = .ok (.iload 6, 2) := by decide +kernel
theorem dL_law_278 : decode cL_law 278 = .ok (.i2l, 1) := by decide +kernel
theorem dL_law_279 : decode cL_law 279 = .ok (.lcmp, 1) := by decide +kernel
theorem dL_law_280 : decode cL_law 280 = .ok (.ifCond .eq 5, 3) := by decide +kernel
theorem dL_law_283 : decode cL_law 283 = .ok (.iconst 0, 1) := by decide +kernel
theorem dL_law_284 : decode cL_law 284 = .ok (.ireturn, 1) := by decide +kernel
theorem dL_law_285 : decode cL_law 285 = .ok (.goto 1016, 3) := by decide +kernel
theorem dL_law_288 : decode cL_law 288 = .ok (.aload_n 1, 1) := by decide +kernel
theorem dL_law_289 : decode cL_law 289 = .ok (.aload_n 0, 1) := by decide +kernel
theorem dL_law_290 : decode cL_law 290 = .ok (.iload 4, 2) := by decide +kernel
theorem dL_law_292 : decode cL_law 292 = .ok (.iconst 1, 1) := by decide +kernel
theorem dL_law_293 : decode cL_law 293 = .ok (.iadd, 1) := by decide +kernel
theorem dL_law_294 : decode cL_law 294 = .ok (.iaload, 1) := by decide +kernel
theorem dL_law_295 : decode cL_law 295 = .ok (.aload_n 0, 1) := by decide +kernel
theorem dL_law_296 : decode cL_law 296 = .ok (.iload 4, 2) := by decide +kernel
theorem dL_law_298 : decode cL_law 298 = .ok (.iconst 2, 1) := by decide +kernel
theorem dL_law_299 : decode cL_law 299 = .ok (.iadd, 1) := by decide +kernel
theorem dL_law_300 : decode cL_law 300 = .ok (.iaload, 1) := by decide +kernel
theorem dL_law_301 : decode cL_law 301 = .ok (.aload_n 0, 1) := by decide +kernel
theorem dL_law_302 : decode cL_law 302 = .ok (.iload 4, 2) := by decide +kernel
theorem dL_law_304 : decode cL_law 304 = .ok (.iconst 3, 1) := by decide +kernel
theorem dL_law_305 : decode cL_law 305 = .ok (.iadd, 1) := by decide +kernel
theorem dL_law_306 : decode cL_law 306 = .ok (.iaload, 1) := by decide +kernel
theorem dL_law_307 : decode cL_law 307 = .ok (.aload_n 3, 1) := by decide +kernel
theorem dL_law_308 : decode cL_law 308 = .ok (.invokestatic 83, 3) := by decide +kernel
theorem dL_law_311 : decode cL_law 311 = .ok (.istore 5, 2) := by decide +kernel
theorem dL_law_313 : decode cL_law 313 = .ok (.aload_n 2, 1) := by decide +kernel
theorem dL_law_314 : decode cL_law 314 = .ok (.aload_n 0, 1) := by decide +kernel
theorem dL_law_315 : decode cL_law 315 = .ok (.iload 4, 2) := by decide +kernel
theorem dL_law_317 : decode cL_law 317 = .ok (.iconst 1, 1) := by decide +kernel
theorem dL_law_318 : decode cL_law 318 = .ok (.iadd, 1) := by decide +kernel
theorem dL_law_319 : decode cL_law 319 = .ok (.iaload, 1) := by decide +kernel
theorem dL_law_320 : decode cL_law 320 = .ok (.aload_n 0, 1) := by decide +kernel
theorem dL_law_321 : decode cL_law 321 = .ok (.iload 4, 2) := by decide +kernel
theorem dL_law_323 : decode cL_law 323 = .ok (.iconst 2, 1) := by decide +kernel
theorem dL_law_324 : decode cL_law 324 = .ok (.iadd, 1) := by decide +kernel
theorem dL_law_325 : decode cL_law 325 = .ok (.iaload, 1) := by decide +kernel
theorem dL_law_326 : decode cL_law 326 = .ok (.aload_n 0, 1) := by decide +kernel
theorem dL_law_327 : decode cL_law 327 = .ok (.iload 4, 2) := by decide +kernel
theorem dL_law_329 : decode cL_law 329 = .ok (.iconst 3, 1) := by decide +kernel
theorem dL_law_330 : decode cL_law 330 = .ok (.iadd, 1) := by decide +kernel
theorem dL_law_331 : decode cL_law 331 = .ok (.iaload, 1) := by decide +kernel
theorem dL_law_332 : decode cL_law 332 = .ok (.invokevirtual 85, 3) := by decide +kernel
theorem dL_law_335 : decode cL_law 335 = .ok (.istore 6, 2) := by decide +kernel
theorem dL_law_337 : decode cL_law 337 = .ok (.aload_n 2, 1) := by decide +kernel
theorem dL_law_338 : decode cL_law 338 = .ok (.invokevirtual 75, 3) := by decide +kernel
theorem dL_law_341 : decode cL_law 341 = .ok (.iload 5, 2) := by decide +kernel
theorem dL_law_343 : decode cL_law 343 = .ok (.if_icmp .eq 5, 3) := by decide +kernel
theorem dL_law_346 : decode cL_law 346 = .ok (.iconst 0, 1) := by decide +kernel
theorem dL_law_347 : decode cL_law 347 = .ok (.ireturn, 1) := by decide +kernel
theorem dL_law_348 : decode cL_law 348 = .ok (.iload 5, 2) := by decide +kernel
theorem dL_law_350 : decode cL_law 350 = .ok (.ifCond .ne 15, 3) := by decide +kernel
theorem dL_law_353 : decode cL_law 353 = .ok (.aload_n 3, 1) := by decide +kernel
theorem dL_law_354 : decode cL_law 354 = .ok (.iconst 0, 1) := by decide +kernel
theorem dL_law_355 : decode cL_law 355 = .ok (.laload, 1) := by decide +kernel
theorem dL_law_356 : decode cL_law 356 = .ok (.iload 6, 2) := by decide +kernel
theorem dL_law_358 : decode cL_law 358 = .ok (.i2l, 1) := by decide +kernel
theorem dL_law_359 : decode cL_law 359 = .ok (.lcmp, 1) := by decide +kernel
theorem dL_law_360 : decode cL_law 360 = .ok (.ifCond .eq 5, 3) := by decide +kernel
theorem dL_law_363 : decode cL_law 363 = .ok (.iconst 0, 1) := by decide +kernel
theorem dL_law_364 : decode cL_law 364 = .ok (.ireturn, 1) := by decide +kernel
theorem dL_law_365 : decode cL_law 365 = .ok (.goto 936, 3) := by decide +kernel
theorem dL_law_368 : decode cL_law 368 = .ok (.aload_n 1, 1) := by decide +kernel
theorem dL_law_369 : decode cL_law 369 = .ok (.aload_n 0, 1) := by decide +kernel
theorem dL_law_370 : decode cL_law 370 = .ok (.iload 4, 2) := by decide +kernel
theorem dL_law_372 : decode cL_law 372 = .ok (.iconst 1, 1) := by decide +kernel
theorem dL_law_373 : decode cL_law 373 = .ok (.iadd, 1) := by decide +kernel
theorem dL_law_374 : decode cL_law 374 = .ok (.iaload, 1) := by decide +kernel
theorem dL_law_375 : decode cL_law 375 = .ok (.aload_n 0, 1) := by decide +kernel
theorem dL_law_376 : decode cL_law 376 = .ok (.iload 4, 2) := by decide +kernel
theorem dL_law_378 : decode cL_law 378 = .ok (.iconst 2, 1) := by decide +kernel
theorem dL_law_379 : decode cL_law 379 = .ok (.iadd, 1) := by decide +kernel
theorem dL_law_380 : decode cL_law 380 = .ok (.iaload, 1) := by decide +kernel
theorem dL_law_381 : decode cL_law 381 = .ok (.ifCond .eq 7, 3) := by decide +kernel
theorem dL_law_384 : decode cL_law 384 = .ok (.iconst 1, 1) := by decide +kernel
theorem dL_law_385 : decode cL_law 385 = .ok (.goto 4, 3) := by decide +kernel
theorem dL_law_388 : decode cL_law 388 = .ok (.iconst 0, 1) := by decide +kernel
theorem dL_law_389 : decode cL_law 389 = .ok (.aload_n 3, 1) := by decide +kernel
theorem dL_law_390 : decode cL_law 390 = .ok (.invokestatic 86, 3) := by decide +kernel
theorem dL_law_393 : decode cL_law 393 = .ok (.istore 5, 2) := by decide +kernel
theorem dL_law_395 : decode cL_law 395 = .ok (.aload_n 2, 1) := by decide +kernel
theorem dL_law_396 : decode cL_law 396 = .ok (.aload_n 0, 1) := by decide +kernel
theorem dL_law_397 : decode cL_law 397 = .ok (.iload 4, 2) := by decide +kernel
theorem dL_law_399 : decode cL_law 399 = .ok (.iconst 1, 1) := by decide +kernel
theorem dL_law_400 : decode cL_law 400 = .ok (.iadd, 1) := by decide +kernel
theorem dL_law_401 : decode cL_law 401 = .ok (.iaload, 1) := by decide +kernel
theorem dL_law_402 : decode cL_law 402 = .ok (.aload_n 0, 1) := by decide +kernel
theorem dL_law_403 : decode cL_law 403 = .ok (.iload 4, 2) := by decide +kernel
theorem dL_law_405 : decode cL_law 405 = .ok (.iconst 2, 1) := by decide +kernel
theorem dL_law_406 : decode cL_law 406 = .ok (.iadd, 1) := by decide +kernel
theorem dL_law_407 : decode cL_law 407 = .ok (.iaload, 1) := by decide +kernel
theorem dL_law_408 : decode cL_law 408 = .ok (.ifCond .eq 7, 3) := by decide +kernel
theorem dL_law_411 : decode cL_law 411 = .ok (.iconst 1, 1) := by decide +kernel
theorem dL_law_412 : decode cL_law 412 = .ok (.goto 4, 3) := by decide +kernel
theorem dL_law_415 : decode cL_law 415 = .ok (.iconst 0, 1) := by decide +kernel
theorem dL_law_416 : decode cL_law 416 = .ok (.invokevirtual 89, 3) := by decide +kernel
theorem dL_law_419 : decode cL_law 419 = .ok (.istore 6, 2) := by decide +kernel
theorem dL_law_421 : decode cL_law 421 = .ok (.aload_n 2, 1) := by decide +kernel
theorem dL_law_422 : decode cL_law 422 = .ok (.invokevirtual 75, 3) := by decide +kernel
theorem dL_law_425 : decode cL_law 425 = .ok (.iload 5, 2) := by decide +kernel
theorem dL_law_427 : decode cL_law 427 = .ok (.if_icmp .eq 5, 3) := by decide +kernel
theorem dL_law_430 : decode cL_law 430 = .ok (.iconst 0, 1) := by decide +kernel
theorem dL_law_431 : decode cL_law 431 = .ok (.ireturn, 1) := by decide +kernel
theorem dL_law_432 : decode cL_law 432 = .ok (.iload 5, 2) := by decide +kernel
theorem dL_law_434 : decode cL_law 434 = .ok (.ifCond .ne 15, 3) := by decide +kernel
theorem dL_law_437 : decode cL_law 437 = .ok (.aload_n 3, 1) := by decide +kernel
theorem dL_law_438 : decode cL_law 438 = .ok (.iconst 0, 1) := by decide +kernel
theorem dL_law_439 : decode cL_law 439 = .ok (.laload, 1) := by decide +kernel
theorem dL_law_440 : decode cL_law 440 = .ok (.iload 6, 2) := by decide +kernel
theorem dL_law_442 : decode cL_law 442 = .ok (.i2l, 1) := by decide +kernel
theorem dL_law_443 : decode cL_law 443 = .ok (.lcmp, 1) := by decide +kernel
theorem dL_law_444 : decode cL_law 444 = .ok (.ifCond .eq 5, 3) := by decide +kernel
theorem dL_law_447 : decode cL_law 447 = .ok (.iconst 0, 1) := by decide +kernel
theorem dL_law_448 : decode cL_law 448 = .ok (.ireturn, 1) := by decide +kernel
theorem dL_law_449 : decode cL_law 449 = .ok (.goto 852, 3) := by decide +kernel
theorem dL_law_452 : decode cL_law 452 = .ok (.aload_n 1, 1) := by decide +kernel
theorem dL_law_453 : decode cL_law 453 = .ok (.aload_n 0, 1) := by decide +kernel
theorem dL_law_454 : decode cL_law 454 = .ok (.iload 4, 2) := by decide +kernel
theorem dL_law_456 : decode cL_law 456 = .ok (.iconst 1, 1) := by decide +kernel
theorem dL_law_457 : decode cL_law 457 = .ok (.iadd, 1) := by decide +kernel
theorem dL_law_458 : decode cL_law 458 = .ok (.iaload, 1) := by decide +kernel
theorem dL_law_459 : decode cL_law 459 = .ok (.aload_n 0, 1) := by decide +kernel
theorem dL_law_460 : decode cL_law 460 = .ok (.iload 4, 2) := by decide +kernel
theorem dL_law_462 : decode cL_law 462 = .ok (.iconst 2, 1) := by decide +kernel
theorem dL_law_463 : decode cL_law 463 = .ok (.iadd, 1) := by decide +kernel
theorem dL_law_464 : decode cL_law 464 = .ok (.iaload, 1) := by decide +kernel
theorem dL_law_465 : decode cL_law 465 = .ok (.ifCond .eq 7, 3) := by decide +kernel
theorem dL_law_468 : decode cL_law 468 = .ok (.iconst 1, 1) := by decide +kernel
theorem dL_law_469 : decode cL_law 469 = .ok (.goto 4, 3) := by decide +kernel
theorem dL_law_472 : decode cL_law 472 = .ok (.iconst 0, 1) := by decide +kernel
theorem dL_law_473 : decode cL_law 473 = .ok (.aload_n 3, 1) := by decide +kernel
theorem dL_law_474 : decode cL_law 474 = .ok (.invokestatic 90, 3) := by decide +kernel
theorem dL_law_477 : decode cL_law 477 = .ok (.istore 5, 2) := by decide +kernel
theorem dL_law_479 : decode cL_law 479 = .ok (.aload_n 2, 1) := by decide +kernel
theorem dL_law_480 : decode cL_law 480 = .ok (.aload_n 0, 1) := by decide +kernel
theorem dL_law_481 : decode cL_law 481 = .ok (.iload 4, 2) := by decide +kernel
theorem dL_law_483 : decode cL_law 483 = .ok (.iconst 1, 1) := by decide +kernel
theorem dL_law_484 : decode cL_law 484 = .ok (.iadd, 1) := by decide +kernel
theorem dL_law_485 : decode cL_law 485 = .ok (.iaload, 1) := by decide +kernel
theorem dL_law_486 : decode cL_law 486 = .ok (.aload_n 0, 1) := by decide +kernel
theorem dL_law_487 : decode cL_law 487 = .ok (.iload 4, 2) := by decide +kernel
theorem dL_law_489 : decode cL_law 489 = .ok (.iconst 2, 1) := by decide +kernel
theorem dL_law_490 : decode cL_law 490 = .ok (.iadd, 1) := by decide +kernel
theorem dL_law_491 : decode cL_law 491 = .ok (.iaload, 1) := by decide +kernel
theorem dL_law_492 : decode cL_law 492 = .ok (.ifCond .eq 7, 3) := by decide +kernel
theorem dL_law_495 : decode cL_law 495 = .ok (.iconst 1, 1) := by decide +kernel
theorem dL_law_496 : decode cL_law 496 = .ok (.goto 4, 3) := by decide +kernel
theorem dL_law_499 : decode cL_law 499 = .ok (.iconst 0, 1) := by decide +kernel
theorem dL_law_500 : decode cL_law 500 = .ok (.invokevirtual 92, 3) := by decide +kernel
theorem dL_law_503 : decode cL_law 503 = .ok (.istore 6, 2) := by decide +kernel
theorem dL_law_505 : decode cL_law 505 = .ok (.aload_n 2, 1) := by decide +kernel
theorem dL_law_506 : decode cL_law 506 = .ok (.invokevirtual 75, 3) := by decide +kernel
theorem dL_law_509 : decode cL_law 509 = .ok (.iload 5, 2) := by decide +kernel
theorem dL_law_511 : decode cL_law 511 = .ok (.if_icmp .eq 5, 3) := by decide +kernel
theorem dL_law_514 : decode cL_law 514 = .ok (.iconst 0, 1) := by decide +kernel
theorem dL_law_515 : decode cL_law 515 = .ok (.ireturn, 1) := by decide +kernel
theorem dL_law_516 : decode cL_law 516 = .ok (.iload 5, 2) := by decide +kernel
theorem dL_law_518 : decode cL_law 518 = .ok (.ifCond .ne 15, 3) := by decide +kernel
theorem dL_law_521 : decode cL_law 521 = .ok (.aload_n 3, 1) := by decide +kernel
theorem dL_law_522 : decode cL_law 522 = .ok (.iconst 0, 1) := by decide +kernel
theorem dL_law_523 : decode cL_law 523 = .ok (.laload, 1) := by decide +kernel
theorem dL_law_524 : decode cL_law 524 = .ok (.iload 6, 2) := by decide +kernel
theorem dL_law_526 : decode cL_law 526 = .ok (.i2l, 1) := by decide +kernel
theorem dL_law_527 : decode cL_law 527 = .ok (.lcmp, 1) := by decide +kernel
theorem dL_law_528 : decode cL_law 528 = .ok (.ifCond .eq 5, 3) := by decide +kernel
theorem dL_law_531 : decode cL_law 531 = .ok (.iconst 0, 1) := by decide +kernel
theorem dL_law_532 : decode cL_law 532 = .ok (.ireturn, 1) := by decide +kernel
theorem dL_law_533 : decode cL_law 533 = .ok (.goto 768, 3) := by decide +kernel
theorem dL_law_536 : decode cL_law 536 = .ok (.aload_n 1, 1) := by decide +kernel
theorem dL_law_537 : decode cL_law 537 = .ok (.aload_n 0, 1) := by decide +kernel
theorem dL_law_538 : decode cL_law 538 = .ok (.iload 4, 2) := by decide +kernel
theorem dL_law_540 : decode cL_law 540 = .ok (.iconst 1, 1) := by decide +kernel
theorem dL_law_541 : decode cL_law 541 = .ok (.iadd, 1) := by decide +kernel
theorem dL_law_542 : decode cL_law 542 = .ok (.iaload, 1) := by decide +kernel
theorem dL_law_543 : decode cL_law 543 = .ok (.aload_n 0, 1) := by decide +kernel
theorem dL_law_544 : decode cL_law 544 = .ok (.iload 4, 2) := by decide +kernel
theorem dL_law_546 : decode cL_law 546 = .ok (.iconst 2, 1) := by decide +kernel
theorem dL_law_547 : decode cL_law 547 = .ok (.iadd, 1) := by decide +kernel
theorem dL_law_548 : decode cL_law 548 = .ok (.iaload, 1) := by decide +kernel
theorem dL_law_549 : decode cL_law 549 = .ok (.aload_n 3, 1) := by decide +kernel
theorem dL_law_550 : decode cL_law 550 = .ok (.invokestatic 93, 3) := by decide +kernel
theorem dL_law_553 : decode cL_law 553 = .ok (.istore 5, 2) := by decide +kernel
theorem dL_law_555 : decode cL_law 555 = .ok (.aload_n 2, 1) := by decide +kernel
theorem dL_law_556 : decode cL_law 556 = .ok (.aload_n 0, 1) := by decide +kernel
theorem dL_law_557 : decode cL_law 557 = .ok (.iload 4, 2) := by decide +kernel
theorem dL_law_559 : decode cL_law 559 = .ok (.iconst 1, 1) := by decide +kernel
theorem dL_law_560 : decode cL_law 560 = .ok (.iadd, 1) := by decide +kernel
theorem dL_law_561 : decode cL_law 561 = .ok (.iaload, 1) := by decide +kernel
theorem dL_law_562 : decode cL_law 562 = .ok (.aload_n 0, 1) := by decide +kernel
theorem dL_law_563 : decode cL_law 563 = .ok (.iload 4, 2) := by decide +kernel
theorem dL_law_565 : decode cL_law 565 = .ok (.iconst 2, 1) := by decide +kernel
theorem dL_law_566 : decode cL_law 566 = .ok (.iadd, 1) := by decide +kernel
theorem dL_law_567 : decode cL_law 567 = .ok (.iaload, 1) := by decide +kernel
theorem dL_law_568 : decode cL_law 568 = .ok (.invokevirtual 96, 3) := by decide +kernel
theorem dL_law_571 : decode cL_law 571 = .ok (.istore 6, 2) := by decide +kernel
theorem dL_law_573 : decode cL_law 573 = .ok (.aload_n 2, 1) := by decide +kernel
theorem dL_law_574 : decode cL_law 574 = .ok (.invokevirtual 75, 3) := by decide +kernel
theorem dL_law_577 : decode cL_law 577 = .ok (.iload 5, 2) := by decide +kernel
theorem dL_law_579 : decode cL_law 579 = .ok (.if_icmp .eq 5, 3) := by decide +kernel
theorem dL_law_582 : decode cL_law 582 = .ok (.iconst 0, 1) := by decide +kernel
theorem dL_law_583 : decode cL_law 583 = .ok (.ireturn, 1) := by decide +kernel
theorem dL_law_584 : decode cL_law 584 = .ok (.iload 5, 2) := by decide +kernel
theorem dL_law_586 : decode cL_law 586 = .ok (.ifCond .ne 15, 3) := by decide +kernel
theorem dL_law_589 : decode cL_law 589 = .ok (.aload_n 3, 1) := by decide +kernel
theorem dL_law_590 : decode cL_law 590 = .ok (.iconst 0, 1) := by decide +kernel
theorem dL_law_591 : decode cL_law 591 = .ok (.laload, 1) := by decide +kernel
theorem dL_law_592 : decode cL_law 592 = .ok (.iload 6, 2) := by decide +kernel
theorem dL_law_594 : decode cL_law 594 = .ok (.i2l, 1) := by decide +kernel
theorem dL_law_595 : decode cL_law 595 = .ok (.lcmp, 1) := by decide +kernel
theorem dL_law_596 : decode cL_law 596 = .ok (.ifCond .eq 5, 3) := by decide +kernel
theorem dL_law_599 : decode cL_law 599 = .ok (.iconst 0, 1) := by decide +kernel
theorem dL_law_600 : decode cL_law 600 = .ok (.ireturn, 1) := by decide +kernel
theorem dL_law_601 : decode cL_law 601 = .ok (.goto 700, 3) := by decide +kernel
theorem dL_law_604 : decode cL_law 604 = .ok (.aload_n 1, 1) := by decide +kernel
theorem dL_law_605 : decode cL_law 605 = .ok (.aload_n 0, 1) := by decide +kernel
theorem dL_law_606 : decode cL_law 606 = .ok (.iload 4, 2) := by decide +kernel
theorem dL_law_608 : decode cL_law 608 = .ok (.iconst 1, 1) := by decide +kernel
theorem dL_law_609 : decode cL_law 609 = .ok (.iadd, 1) := by decide +kernel
theorem dL_law_610 : decode cL_law 610 = .ok (.iaload, 1) := by decide +kernel
theorem dL_law_611 : decode cL_law 611 = .ok (.aload_n 0, 1) := by decide +kernel
theorem dL_law_612 : decode cL_law 612 = .ok (.iload 4, 2) := by decide +kernel
theorem dL_law_614 : decode cL_law 614 = .ok (.iconst 2, 1) := by decide +kernel
theorem dL_law_615 : decode cL_law 615 = .ok (.iadd, 1) := by decide +kernel
theorem dL_law_616 : decode cL_law 616 = .ok (.iaload, 1) := by decide +kernel
theorem dL_law_617 : decode cL_law 617 = .ok (.aload_n 0, 1) := by decide +kernel
theorem dL_law_618 : decode cL_law 618 = .ok (.iload 4, 2) := by decide +kernel
theorem dL_law_620 : decode cL_law 620 = .ok (.iconst 3, 1) := by decide +kernel
theorem dL_law_621 : decode cL_law 621 = .ok (.iadd, 1) := by decide +kernel
theorem dL_law_622 : decode cL_law 622 = .ok (.iaload, 1) := by decide +kernel
theorem dL_law_623 : decode cL_law 623 = .ok (.aload_n 0, 1) := by decide +kernel
theorem dL_law_624 : decode cL_law 624 = .ok (.iload 4, 2) := by decide +kernel
theorem dL_law_626 : decode cL_law 626 = .ok (.iconst 4, 1) := by decide +kernel
theorem dL_law_627 : decode cL_law 627 = .ok (.iadd, 1) := by decide +kernel
theorem dL_law_628 : decode cL_law 628 = .ok (.iaload, 1) := by decide +kernel
theorem dL_law_629 : decode cL_law 629 = .ok (.aload_n 3, 1) := by decide +kernel
theorem dL_law_630 : decode cL_law 630 = .ok (.invokestatic 97, 3) := by decide +kernel
theorem dL_law_633 : decode cL_law 633 = .ok (.istore 5, 2) := by decide +kernel
theorem dL_law_635 : decode cL_law 635 = .ok (.aload_n 2, 1) := by decide +kernel
theorem dL_law_636 : decode cL_law 636 = .ok (.aload_n 0, 1) := by decide +kernel
theorem dL_law_637 : decode cL_law 637 = .ok (.iload 4, 2) := by decide +kernel
theorem dL_law_639 : decode cL_law 639 = .ok (.iconst 1, 1) := by decide +kernel
theorem dL_law_640 : decode cL_law 640 = .ok (.iadd, 1) := by decide +kernel
theorem dL_law_641 : decode cL_law 641 = .ok (.iaload, 1) := by decide +kernel
theorem dL_law_642 : decode cL_law 642 = .ok (.aload_n 0, 1) := by decide +kernel
theorem dL_law_643 : decode cL_law 643 = .ok (.iload 4, 2) := by decide +kernel
theorem dL_law_645 : decode cL_law 645 = .ok (.iconst 2, 1) := by decide +kernel
theorem dL_law_646 : decode cL_law 646 = .ok (.iadd, 1) := by decide +kernel
theorem dL_law_647 : decode cL_law 647 = .ok (.iaload, 1) := by decide +kernel
theorem dL_law_648 : decode cL_law 648 = .ok (.aload_n 0, 1) := by decide +kernel
theorem dL_law_649 : decode cL_law 649 = .ok (.iload 4, 2) := by decide +kernel
theorem dL_law_651 : decode cL_law 651 = .ok (.iconst 3, 1) := by decide +kernel
theorem dL_law_652 : decode cL_law 652 = .ok (.iadd, 1) := by decide +kernel
theorem dL_law_653 : decode cL_law 653 = .ok (.iaload, 1) := by decide +kernel
theorem dL_law_654 : decode cL_law 654 = .ok (.aload_n 0, 1) := by decide +kernel
theorem dL_law_655 : decode cL_law 655 = .ok (.iload 4, 2) := by decide +kernel
theorem dL_law_657 : decode cL_law 657 = .ok (.iconst 4, 1) := by decide +kernel
theorem dL_law_658 : decode cL_law 658 = .ok (.iadd, 1) := by decide +kernel
theorem dL_law_659 : decode cL_law 659 = .ok (.iaload, 1) := by decide +kernel
theorem dL_law_660 : decode cL_law 660 = .ok (.invokevirtual 99, 3) := by decide +kernel
theorem dL_law_663 : decode cL_law 663 = .ok (.istore 6, 2) := by decide +kernel
theorem dL_law_665 : decode cL_law 665 = .ok (.aload_n 2, 1) := by decide +kernel
theorem dL_law_666 : decode cL_law 666 = .ok (.invokevirtual 75, 3) := by decide +kernel
theorem dL_law_669 : decode cL_law 669 = .ok (.iload 5, 2) := by decide +kernel
theorem dL_law_671 : decode cL_law 671 = .ok (.if_icmp .eq 5, 3) := by decide +kernel
theorem dL_law_674 : decode cL_law 674 = .ok (.iconst 0, 1) := by decide +kernel
theorem dL_law_675 : decode cL_law 675 = .ok (.ireturn, 1) := by decide +kernel
theorem dL_law_676 : decode cL_law 676 = .ok (.iload 5, 2) := by decide +kernel
theorem dL_law_678 : decode cL_law 678 = .ok (.ifCond .ne 15, 3) := by decide +kernel
theorem dL_law_681 : decode cL_law 681 = .ok (.aload_n 3, 1) := by decide +kernel
theorem dL_law_682 : decode cL_law 682 = .ok (.iconst 0, 1) := by decide +kernel
theorem dL_law_683 : decode cL_law 683 = .ok (.laload, 1) := by decide +kernel
theorem dL_law_684 : decode cL_law 684 = .ok (.iload 6, 2) := by decide +kernel
theorem dL_law_686 : decode cL_law 686 = .ok (.i2l, 1) := by decide +kernel
theorem dL_law_687 : decode cL_law 687 = .ok (.lcmp, 1) := by decide +kernel
theorem dL_law_688 : decode cL_law 688 = .ok (.ifCond .eq 5, 3) := by decide +kernel
theorem dL_law_691 : decode cL_law 691 = .ok (.iconst 0, 1) := by decide +kernel
theorem dL_law_692 : decode cL_law 692 = .ok (.ireturn, 1) := by decide +kernel
theorem dL_law_693 : decode cL_law 693 = .ok (.goto 608, 3) := by decide +kernel
theorem dL_law_696 : decode cL_law 696 = .ok (.aload_n 1, 1) := by decide +kernel
theorem dL_law_697 : decode cL_law 697 = .ok (.aload_n 0, 1) := by decide +kernel
theorem dL_law_698 : decode cL_law 698 = .ok (.iload 4, 2) := by decide +kernel
theorem dL_law_700 : decode cL_law 700 = .ok (.iconst 1, 1) := by decide +kernel
theorem dL_law_701 : decode cL_law 701 = .ok (.iadd, 1) := by decide +kernel
theorem dL_law_702 : decode cL_law 702 = .ok (.iaload, 1) := by decide +kernel
theorem dL_law_703 : decode cL_law 703 = .ok (.aload_n 0, 1) := by decide +kernel
theorem dL_law_704 : decode cL_law 704 = .ok (.iload 4, 2) := by decide +kernel
theorem dL_law_706 : decode cL_law 706 = .ok (.iconst 2, 1) := by decide +kernel
theorem dL_law_707 : decode cL_law 707 = .ok (.iadd, 1) := by decide +kernel
theorem dL_law_708 : decode cL_law 708 = .ok (.iaload, 1) := by decide +kernel
theorem dL_law_709 : decode cL_law 709 = .ok (.aload_n 3, 1) := by decide +kernel
theorem dL_law_710 : decode cL_law 710 = .ok (.invokestatic 100, 3) := by decide +kernel
theorem dL_law_713 : decode cL_law 713 = .ok (.istore 5, 2) := by decide +kernel
theorem dL_law_715 : decode cL_law 715 = .ok (.aload_n 2, 1) := by decide +kernel
theorem dL_law_716 : decode cL_law 716 = .ok (.aload_n 0, 1) := by decide +kernel
theorem dL_law_717 : decode cL_law 717 = .ok (.iload 4, 2) := by decide +kernel
theorem dL_law_719 : decode cL_law 719 = .ok (.iconst 1, 1) := by decide +kernel
theorem dL_law_720 : decode cL_law 720 = .ok (.iadd, 1) := by decide +kernel
theorem dL_law_721 : decode cL_law 721 = .ok (.iaload, 1) := by decide +kernel
theorem dL_law_722 : decode cL_law 722 = .ok (.aload_n 0, 1) := by decide +kernel
theorem dL_law_723 : decode cL_law 723 = .ok (.iload 4, 2) := by decide +kernel
theorem dL_law_725 : decode cL_law 725 = .ok (.iconst 2, 1) := by decide +kernel
theorem dL_law_726 : decode cL_law 726 = .ok (.iadd, 1) := by decide +kernel
theorem dL_law_727 : decode cL_law 727 = .ok (.iaload, 1) := by decide +kernel
theorem dL_law_728 : decode cL_law 728 = .ok (.invokevirtual 102, 3) := by decide +kernel
theorem dL_law_731 : decode cL_law 731 = .ok (.istore 6, 2) := by decide +kernel
theorem dL_law_733 : decode cL_law 733 = .ok (.aload_n 2, 1) := by decide +kernel
theorem dL_law_734 : decode cL_law 734 = .ok (.invokevirtual 75, 3) := by decide +kernel
theorem dL_law_737 : decode cL_law 737 = .ok (.iload 5, 2) := by decide +kernel
theorem dL_law_739 : decode cL_law 739 = .ok (.if_icmp .eq 5, 3) := by decide +kernel
theorem dL_law_742 : decode cL_law 742 = .ok (.iconst 0, 1) := by decide +kernel
theorem dL_law_743 : decode cL_law 743 = .ok (.ireturn, 1) := by decide +kernel
theorem dL_law_744 : decode cL_law 744 = .ok (.iload 5, 2) := by decide +kernel
theorem dL_law_746 : decode cL_law 746 = .ok (.ifCond .ne 15, 3) := by decide +kernel
theorem dL_law_749 : decode cL_law 749 = .ok (.aload_n 3, 1) := by decide +kernel
theorem dL_law_750 : decode cL_law 750 = .ok (.iconst 0, 1) := by decide +kernel
theorem dL_law_751 : decode cL_law 751 = .ok (.laload, 1) := by decide +kernel
theorem dL_law_752 : decode cL_law 752 = .ok (.iload 6, 2) := by decide +kernel
theorem dL_law_754 : decode cL_law 754 = .ok (.i2l, 1) := by decide +kernel
theorem dL_law_755 : decode cL_law 755 = .ok (.lcmp, 1) := by decide +kernel
theorem dL_law_756 : decode cL_law 756 = .ok (.ifCond .eq 5, 3) := by decide +kernel
theorem dL_law_759 : decode cL_law 759 = .ok (.iconst 0, 1) := by decide +kernel
theorem dL_law_760 : decode cL_law 760 = .ok (.ireturn, 1) := by decide +kernel
theorem dL_law_761 : decode cL_law 761 = .ok (.goto 540, 3) := by decide +kernel
theorem dL_law_764 : decode cL_law 764 = .ok (.aload_n 1, 1) := by decide +kernel
theorem dL_law_765 : decode cL_law 765 = .ok (.aload_n 0, 1) := by decide +kernel
theorem dL_law_766 : decode cL_law 766 = .ok (.iload 4, 2) := by decide +kernel
theorem dL_law_768 : decode cL_law 768 = .ok (.iconst 1, 1) := by decide +kernel
theorem dL_law_769 : decode cL_law 769 = .ok (.iadd, 1) := by decide +kernel
theorem dL_law_770 : decode cL_law 770 = .ok (.iaload, 1) := by decide +kernel
theorem dL_law_771 : decode cL_law 771 = .ok (.aload_n 0, 1) := by decide +kernel
theorem dL_law_772 : decode cL_law 772 = .ok (.iload 4, 2) := by decide +kernel
theorem dL_law_774 : decode cL_law 774 = .ok (.iconst 2, 1) := by decide +kernel
theorem dL_law_775 : decode cL_law 775 = .ok (.iadd, 1) := by decide +kernel
theorem dL_law_776 : decode cL_law 776 = .ok (.iaload, 1) := by decide +kernel
theorem dL_law_777 : decode cL_law 777 = .ok (.aload_n 0, 1) := by decide +kernel
theorem dL_law_778 : decode cL_law 778 = .ok (.iload 4, 2) := by decide +kernel
theorem dL_law_780 : decode cL_law 780 = .ok (.iconst 3, 1) := by decide +kernel
theorem dL_law_781 : decode cL_law 781 = .ok (.iadd, 1) := by decide +kernel
theorem dL_law_782 : decode cL_law 782 = .ok (.iaload, 1) := by decide +kernel
theorem dL_law_783 : decode cL_law 783 = .ok (.aload_n 3, 1) := by decide +kernel
theorem dL_law_784 : decode cL_law 784 = .ok (.invokestatic 103, 3) := by decide +kernel
theorem dL_law_787 : decode cL_law 787 = .ok (.istore 5, 2) := by decide +kernel
theorem dL_law_789 : decode cL_law 789 = .ok (.aload_n 2, 1) := by decide +kernel
theorem dL_law_790 : decode cL_law 790 = .ok (.aload_n 0, 1) := by decide +kernel
theorem dL_law_791 : decode cL_law 791 = .ok (.iload 4, 2) := by decide +kernel
theorem dL_law_793 : decode cL_law 793 = .ok (.iconst 1, 1) := by decide +kernel
theorem dL_law_794 : decode cL_law 794 = .ok (.iadd, 1) := by decide +kernel
theorem dL_law_795 : decode cL_law 795 = .ok (.iaload, 1) := by decide +kernel
theorem dL_law_796 : decode cL_law 796 = .ok (.aload_n 0, 1) := by decide +kernel
theorem dL_law_797 : decode cL_law 797 = .ok (.iload 4, 2) := by decide +kernel
theorem dL_law_799 : decode cL_law 799 = .ok (.iconst 2, 1) := by decide +kernel
theorem dL_law_800 : decode cL_law 800 = .ok (.iadd, 1) := by decide +kernel
theorem dL_law_801 : decode cL_law 801 = .ok (.iaload, 1) := by decide +kernel
theorem dL_law_802 : decode cL_law 802 = .ok (.aload_n 0, 1) := by decide +kernel
theorem dL_law_803 : decode cL_law 803 = .ok (.iload 4, 2) := by decide +kernel
theorem dL_law_805 : decode cL_law 805 = .ok (.iconst 3, 1) := by decide +kernel
theorem dL_law_806 : decode cL_law 806 = .ok (.iadd, 1) := by decide +kernel
theorem dL_law_807 : decode cL_law 807 = .ok (.iaload, 1) := by decide +kernel
theorem dL_law_808 : decode cL_law 808 = .ok (.invokevirtual 105, 3) := by decide +kernel
theorem dL_law_811 : decode cL_law 811 = .ok (.istore 6, 2) := by decide +kernel
theorem dL_law_813 : decode cL_law 813 = .ok (.aload_n 2, 1) := by decide +kernel
theorem dL_law_814 : decode cL_law 814 = .ok (.invokevirtual 75, 3) := by decide +kernel
theorem dL_law_817 : decode cL_law 817 = .ok (.iload 5, 2) := by decide +kernel
theorem dL_law_819 : decode cL_law 819 = .ok (.if_icmp .eq 5, 3) := by decide +kernel
theorem dL_law_822 : decode cL_law 822 = .ok (.iconst 0, 1) := by decide +kernel
theorem dL_law_823 : decode cL_law 823 = .ok (.ireturn, 1) := by decide +kernel
theorem dL_law_824 : decode cL_law 824 = .ok (.iload 5, 2) := by decide +kernel
theorem dL_law_826 : decode cL_law 826 = .ok (.ifCond .ne 15, 3) := by decide +kernel
theorem dL_law_829 : decode cL_law 829 = .ok (.aload_n 3, 1) := by decide +kernel
theorem dL_law_830 : decode cL_law 830 = .ok (.iconst 0, 1) := by decide +kernel
theorem dL_law_831 : decode cL_law 831 = .ok (.laload, 1) := by decide +kernel
theorem dL_law_832 : decode cL_law 832 = .ok (.iload 6, 2) := by decide +kernel
theorem dL_law_834 : decode cL_law 834 = .ok (.i2l, 1) := by decide +kernel
theorem dL_law_835 : decode cL_law 835 = .ok (.lcmp, 1) := by decide +kernel
theorem dL_law_836 : decode cL_law 836 = .ok (.ifCond .eq 5, 3) := by decide +kernel
theorem dL_law_839 : decode cL_law 839 = .ok (.iconst 0, 1) := by decide +kernel
theorem dL_law_840 : decode cL_law 840 = .ok (.ireturn, 1) := by decide +kernel
theorem dL_law_841 : decode cL_law 841 = .ok (.goto 460, 3) := by decide +kernel
theorem dL_law_844 : decode cL_law 844 = .ok (.aload_n 1, 1) := by decide +kernel
theorem dL_law_845 : decode cL_law 845 = .ok (.aload_n 0, 1) := by decide +kernel
theorem dL_law_846 : decode cL_law 846 = .ok (.iload 4, 2) := by decide +kernel
theorem dL_law_848 : decode cL_law 848 = .ok (.iconst 1, 1) := by decide +kernel
theorem dL_law_849 : decode cL_law 849 = .ok (.iadd, 1) := by decide +kernel
theorem dL_law_850 : decode cL_law 850 = .ok (.iaload, 1) := by decide +kernel
theorem dL_law_851 : decode cL_law 851 = .ok (.aload_n 0, 1) := by decide +kernel
theorem dL_law_852 : decode cL_law 852 = .ok (.iload 4, 2) := by decide +kernel
theorem dL_law_854 : decode cL_law 854 = .ok (.iconst 2, 1) := by decide +kernel
theorem dL_law_855 : decode cL_law 855 = .ok (.iadd, 1) := by decide +kernel
theorem dL_law_856 : decode cL_law 856 = .ok (.iaload, 1) := by decide +kernel
theorem dL_law_857 : decode cL_law 857 = .ok (.aload_n 3, 1) := by decide +kernel
theorem dL_law_858 : decode cL_law 858 = .ok (.invokestatic 106, 3) := by decide +kernel
theorem dL_law_861 : decode cL_law 861 = .ok (.istore 5, 2) := by decide +kernel
theorem dL_law_863 : decode cL_law 863 = .ok (.aload_n 2, 1) := by decide +kernel
theorem dL_law_864 : decode cL_law 864 = .ok (.aload_n 0, 1) := by decide +kernel
theorem dL_law_865 : decode cL_law 865 = .ok (.iload 4, 2) := by decide +kernel
theorem dL_law_867 : decode cL_law 867 = .ok (.iconst 1, 1) := by decide +kernel
theorem dL_law_868 : decode cL_law 868 = .ok (.iadd, 1) := by decide +kernel
theorem dL_law_869 : decode cL_law 869 = .ok (.iaload, 1) := by decide +kernel
theorem dL_law_870 : decode cL_law 870 = .ok (.aload_n 0, 1) := by decide +kernel
theorem dL_law_871 : decode cL_law 871 = .ok (.iload 4, 2) := by decide +kernel
theorem dL_law_873 : decode cL_law 873 = .ok (.iconst 2, 1) := by decide +kernel
theorem dL_law_874 : decode cL_law 874 = .ok (.iadd, 1) := by decide +kernel
theorem dL_law_875 : decode cL_law 875 = .ok (.iaload, 1) := by decide +kernel
theorem dL_law_876 : decode cL_law 876 = .ok (.invokevirtual 108, 3) := by decide +kernel
theorem dL_law_879 : decode cL_law 879 = .ok (.istore 6, 2) := by decide +kernel
theorem dL_law_881 : decode cL_law 881 = .ok (.aload_n 2, 1) := by decide +kernel
theorem dL_law_882 : decode cL_law 882 = .ok (.invokevirtual 75, 3) := by decide +kernel
theorem dL_law_885 : decode cL_law 885 = .ok (.iload 5, 2) := by decide +kernel
theorem dL_law_887 : decode cL_law 887 = .ok (.if_icmp .eq 5, 3) := by decide +kernel
theorem dL_law_890 : decode cL_law 890 = .ok (.iconst 0, 1) := by decide +kernel
theorem dL_law_891 : decode cL_law 891 = .ok (.ireturn, 1) := by decide +kernel
theorem dL_law_892 : decode cL_law 892 = .ok (.iload 5, 2) := by decide +kernel
theorem dL_law_894 : decode cL_law 894 = .ok (.ifCond .ne 15, 3) := by decide +kernel
theorem dL_law_897 : decode cL_law 897 = .ok (.aload_n 3, 1) := by decide +kernel
theorem dL_law_898 : decode cL_law 898 = .ok (.iconst 0, 1) := by decide +kernel
theorem dL_law_899 : decode cL_law 899 = .ok (.laload, 1) := by decide +kernel
theorem dL_law_900 : decode cL_law 900 = .ok (.iload 6, 2) := by decide +kernel
theorem dL_law_902 : decode cL_law 902 = .ok (.i2l, 1) := by decide +kernel
theorem dL_law_903 : decode cL_law 903 = .ok (.lcmp, 1) := by decide +kernel
theorem dL_law_904 : decode cL_law 904 = .ok (.ifCond .eq 5, 3) := by decide +kernel
theorem dL_law_907 : decode cL_law 907 = .ok (.iconst 0, 1) := by decide +kernel
theorem dL_law_908 : decode cL_law 908 = .ok (.ireturn, 1) := by decide +kernel
theorem dL_law_909 : decode cL_law 909 = .ok (.goto 392, 3) := by decide +kernel
theorem dL_law_912 : decode cL_law 912 = .ok (.aload_n 1, 1) := by decide +kernel
theorem dL_law_913 : decode cL_law 913 = .ok (.aload_n 0, 1) := by decide +kernel
theorem dL_law_914 : decode cL_law 914 = .ok (.iload 4, 2) := by decide +kernel
theorem dL_law_916 : decode cL_law 916 = .ok (.iconst 1, 1) := by decide +kernel
theorem dL_law_917 : decode cL_law 917 = .ok (.iadd, 1) := by decide +kernel
theorem dL_law_918 : decode cL_law 918 = .ok (.iaload, 1) := by decide +kernel
theorem dL_law_919 : decode cL_law 919 = .ok (.aload_n 0, 1) := by decide +kernel
theorem dL_law_920 : decode cL_law 920 = .ok (.iload 4, 2) := by decide +kernel
theorem dL_law_922 : decode cL_law 922 = .ok (.iconst 2, 1) := by decide +kernel
theorem dL_law_923 : decode cL_law 923 = .ok (.iadd, 1) := by decide +kernel
theorem dL_law_924 : decode cL_law 924 = .ok (.iaload, 1) := by decide +kernel
theorem dL_law_925 : decode cL_law 925 = .ok (.aload_n 0, 1) := by decide +kernel
theorem dL_law_926 : decode cL_law 926 = .ok (.iload 4, 2) := by decide +kernel
theorem dL_law_928 : decode cL_law 928 = .ok (.iconst 3, 1) := by decide +kernel
theorem dL_law_929 : decode cL_law 929 = .ok (.iadd, 1) := by decide +kernel
theorem dL_law_930 : decode cL_law 930 = .ok (.iaload, 1) := by decide +kernel
theorem dL_law_931 : decode cL_law 931 = .ok (.aload_n 3, 1) := by decide +kernel
theorem dL_law_932 : decode cL_law 932 = .ok (.invokestatic 109, 3) := by decide +kernel
theorem dL_law_935 : decode cL_law 935 = .ok (.istore 5, 2) := by decide +kernel
theorem dL_law_937 : decode cL_law 937 = .ok (.aload_n 2, 1) := by decide +kernel
theorem dL_law_938 : decode cL_law 938 = .ok (.aload_n 0, 1) := by decide +kernel
theorem dL_law_939 : decode cL_law 939 = .ok (.iload 4, 2) := by decide +kernel
theorem dL_law_941 : decode cL_law 941 = .ok (.iconst 1, 1) := by decide +kernel
theorem dL_law_942 : decode cL_law 942 = .ok (.iadd, 1) := by decide +kernel
theorem dL_law_943 : decode cL_law 943 = .ok (.iaload, 1) := by decide +kernel
theorem dL_law_944 : decode cL_law 944 = .ok (.aload_n 0, 1) := by decide +kernel
theorem dL_law_945 : decode cL_law 945 = .ok (.iload 4, 2) := by decide +kernel
theorem dL_law_947 : decode cL_law 947 = .ok (.iconst 2, 1) := by decide +kernel
theorem dL_law_948 : decode cL_law 948 = .ok (.iadd, 1) := by decide +kernel
theorem dL_law_949 : decode cL_law 949 = .ok (.iaload, 1) := by decide +kernel
theorem dL_law_950 : decode cL_law 950 = .ok (.aload_n 0, 1) := by decide +kernel
theorem dL_law_951 : decode cL_law 951 = .ok (.iload 4, 2) := by decide +kernel
theorem dL_law_953 : decode cL_law 953 = .ok (.iconst 3, 1) := by decide +kernel
theorem dL_law_954 : decode cL_law 954 = .ok (.iadd, 1) := by decide +kernel
theorem dL_law_955 : decode cL_law 955 = .ok (.iaload, 1) := by decide +kernel
theorem dL_law_956 : decode cL_law 956 = .ok (.invokevirtual 111, 3) := by decide +kernel
theorem dL_law_959 : decode cL_law 959 = .ok (.istore 6, 2) := by decide +kernel
theorem dL_law_961 : decode cL_law 961 = .ok (.aload_n 2, 1) := by decide +kernel
theorem dL_law_962 : decode cL_law 962 = .ok (.invokevirtual 75, 3) := by decide +kernel
theorem dL_law_965 : decode cL_law 965 = .ok (.iload 5, 2) := by decide +kernel
theorem dL_law_967 : decode cL_law 967 = .ok (.if_icmp .eq 5, 3) := by decide +kernel
theorem dL_law_970 : decode cL_law 970 = .ok (.iconst 0, 1) := by decide +kernel
theorem dL_law_971 : decode cL_law 971 = .ok (.ireturn, 1) := by decide +kernel
theorem dL_law_972 : decode cL_law 972 = .ok (.iload 5, 2) := by decide +kernel
theorem dL_law_974 : decode cL_law 974 = .ok (.ifCond .ne 15, 3) := by decide +kernel
theorem dL_law_977 : decode cL_law 977 = .ok (.aload_n 3, 1) := by decide +kernel
theorem dL_law_978 : decode cL_law 978 = .ok (.iconst 0, 1) := by decide +kernel
theorem dL_law_979 : decode cL_law 979 = .ok (.laload, 1) := by decide +kernel
theorem dL_law_980 : decode cL_law 980 = .ok (.iload 6, 2) := by decide +kernel
theorem dL_law_982 : decode cL_law 982 = .ok (.i2l, 1) := by decide +kernel
theorem dL_law_983 : decode cL_law 983 = .ok (.lcmp, 1) := by decide +kernel
theorem dL_law_984 : decode cL_law 984 = .ok (.ifCond .eq 5, 3) := by decide +kernel
theorem dL_law_987 : decode cL_law 987 = .ok (.iconst 0, 1) := by decide +kernel
theorem dL_law_988 : decode cL_law 988 = .ok (.ireturn, 1) := by decide +kernel
theorem dL_law_989 : decode cL_law 989 = .ok (.goto 312, 3) := by decide +kernel
theorem dL_law_992 : decode cL_law 992 = .ok (.aload_n 1, 1) := by decide +kernel
theorem dL_law_993 : decode cL_law 993 = .ok (.aload_n 0, 1) := by decide +kernel
theorem dL_law_994 : decode cL_law 994 = .ok (.iload 4, 2) := by decide +kernel
theorem dL_law_996 : decode cL_law 996 = .ok (.iconst 1, 1) := by decide +kernel
theorem dL_law_997 : decode cL_law 997 = .ok (.iadd, 1) := by decide +kernel
theorem dL_law_998 : decode cL_law 998 = .ok (.iaload, 1) := by decide +kernel
theorem dL_law_999 : decode cL_law 999 = .ok (.aload_n 3, 1) := by decide +kernel
theorem dL_law_1000 : decode cL_law 1000 = .ok (.invokestatic 112, 3) := by decide +kernel
theorem dL_law_1003 : decode cL_law 1003 = .ok (.istore 5, 2) := by decide +kernel
theorem dL_law_1005 : decode cL_law 1005 = .ok (.aload_n 2, 1) := by decide +kernel
theorem dL_law_1006 : decode cL_law 1006 = .ok (.aload_n 0, 1) := by decide +kernel
theorem dL_law_1007 : decode cL_law 1007 = .ok (.iload 4, 2) := by decide +kernel
theorem dL_law_1009 : decode cL_law 1009 = .ok (.iconst 1, 1) := by decide +kernel
theorem dL_law_1010 : decode cL_law 1010 = .ok (.iadd, 1) := by decide +kernel
theorem dL_law_1011 : decode cL_law 1011 = .ok (.iaload, 1) := by decide +kernel
theorem dL_law_1012 : decode cL_law 1012 = .ok (.invokevirtual 115, 3) := by decide +kernel
theorem dL_law_1015 : decode cL_law 1015 = .ok (.istore 6, 2) := by decide +kernel
theorem dL_law_1017 : decode cL_law 1017 = .ok (.aload_n 2, 1) := by decide +kernel
theorem dL_law_1018 : decode cL_law 1018 = .ok (.invokevirtual 75, 3) := by decide +kernel
theorem dL_law_1021 : decode cL_law 1021 = .ok (.iload 5, 2) := by decide +kernel
theorem dL_law_1023 : decode cL_law 1023 = .ok (.if_icmp .eq 5, 3) := by decide +kernel
theorem dL_law_1026 : decode cL_law 1026 = .ok (.iconst 0, 1) := by decide +kernel
theorem dL_law_1027 : decode cL_law 1027 = .ok (.ireturn, 1) := by decide +kernel
theorem dL_law_1028 : decode cL_law 1028 = .ok (.iload 5, 2) := by decide +kernel
theorem dL_law_1030 : decode cL_law 1030 = .ok (.ifCond .ne 15, 3) := by decide +kernel
theorem dL_law_1033 : decode cL_law 1033 = .ok (.aload_n 3, 1) := by decide +kernel
theorem dL_law_1034 : decode cL_law 1034 = .ok (.iconst 0, 1) := by decide +kernel
theorem dL_law_1035 : decode cL_law 1035 = .ok (.laload, 1) := by decide +kernel
theorem dL_law_1036 : decode cL_law 1036 = .ok (.iload 6, 2) := by decide +kernel
theorem dL_law_1038 : decode cL_law 1038 = .ok (.i2l, 1) := by decide +kernel
theorem dL_law_1039 : decode cL_law 1039 = .ok (.lcmp, 1) := by decide +kernel
theorem dL_law_1040 : decode cL_law 1040 = .ok (.ifCond .eq 5, 3) := by decide +kernel
theorem dL_law_1043 : decode cL_law 1043 = .ok (.iconst 0, 1) := by decide +kernel
theorem dL_law_1044 : decode cL_law 1044 = .ok (.ireturn, 1) := by decide +kernel
theorem dL_law_1045 : decode cL_law 1045 = .ok (.goto 256, 3) := by decide +kernel
theorem dL_law_1048 : decode cL_law 1048 = .ok (.aload_n 1, 1) := by decide +kernel
theorem dL_law_1049 : decode cL_law 1049 = .ok (.aload_n 0, 1) := by decide +kernel
theorem dL_law_1050 : decode cL_law 1050 = .ok (.iload 4, 2) := by decide +kernel
theorem dL_law_1052 : decode cL_law 1052 = .ok (.iconst 1, 1) := by decide +kernel
theorem dL_law_1053 : decode cL_law 1053 = .ok (.iadd, 1) := by decide +kernel
theorem dL_law_1054 : decode cL_law 1054 = .ok (.iaload, 1) := by decide +kernel
theorem dL_law_1055 : decode cL_law 1055 = .ok (.aload_n 0, 1) := by decide +kernel
theorem dL_law_1056 : decode cL_law 1056 = .ok (.iload 4, 2) := by decide +kernel
theorem dL_law_1058 : decode cL_law 1058 = .ok (.iconst 2, 1) := by decide +kernel
theorem dL_law_1059 : decode cL_law 1059 = .ok (.iadd, 1) := by decide +kernel
theorem dL_law_1060 : decode cL_law 1060 = .ok (.iaload, 1) := by decide +kernel
theorem dL_law_1061 : decode cL_law 1061 = .ok (.aload_n 3, 1) := by decide +kernel
theorem dL_law_1062 : decode cL_law 1062 = .ok (.invokestatic 116, 3) := by decide +kernel
theorem dL_law_1065 : decode cL_law 1065 = .ok (.istore 5, 2) := by decide +kernel
theorem dL_law_1067 : decode cL_law 1067 = .ok (.aload_n 2, 1) := by decide +kernel
theorem dL_law_1068 : decode cL_law 1068 = .ok (.aload_n 0, 1) := by decide +kernel
theorem dL_law_1069 : decode cL_law 1069 = .ok (.iload 4, 2) := by decide +kernel
theorem dL_law_1071 : decode cL_law 1071 = .ok (.iconst 1, 1) := by decide +kernel
theorem dL_law_1072 : decode cL_law 1072 = .ok (.iadd, 1) := by decide +kernel
theorem dL_law_1073 : decode cL_law 1073 = .ok (.iaload, 1) := by decide +kernel
theorem dL_law_1074 : decode cL_law 1074 = .ok (.aload_n 0, 1) := by decide +kernel
theorem dL_law_1075 : decode cL_law 1075 = .ok (.iload 4, 2) := by decide +kernel
theorem dL_law_1077 : decode cL_law 1077 = .ok (.iconst 2, 1) := by decide +kernel
theorem dL_law_1078 : decode cL_law 1078 = .ok (.iadd, 1) := by decide +kernel
theorem dL_law_1079 : decode cL_law 1079 = .ok (.iaload, 1) := by decide +kernel
theorem dL_law_1080 : decode cL_law 1080 = .ok (.invokevirtual 118, 3) := by decide +kernel
theorem dL_law_1083 : decode cL_law 1083 = .ok (.istore 6, 2) := by decide +kernel
theorem dL_law_1085 : decode cL_law 1085 = .ok (.aload_n 2, 1) := by decide +kernel
theorem dL_law_1086 : decode cL_law 1086 = .ok (.invokevirtual 75, 3) := by decide +kernel
theorem dL_law_1089 : decode cL_law 1089 = .ok (.iload 5, 2) := by decide +kernel
theorem dL_law_1091 : decode cL_law 1091 = .ok (.if_icmp .eq 5, 3) := by decide +kernel
theorem dL_law_1094 : decode cL_law 1094 = .ok (.iconst 0, 1) := by decide +kernel
theorem dL_law_1095 : decode cL_law 1095 = .ok (.ireturn, 1) := by decide +kernel
theorem dL_law_1096 : decode cL_law 1096 = .ok (.iload 5, 2) := by decide +kernel
theorem dL_law_1098 : decode cL_law 1098 = .ok (.ifCond .ne 15, 3) := by decide +kernel
theorem dL_law_1101 : decode cL_law 1101 = .ok (.aload_n 3, 1) := by decide +kernel
theorem dL_law_1102 : decode cL_law 1102 = .ok (.iconst 0, 1) := by decide +kernel
theorem dL_law_1103 : decode cL_law 1103 = .ok (.laload, 1) := by decide +kernel
theorem dL_law_1104 : decode cL_law 1104 = .ok (.iload 6, 2) := by decide +kernel
theorem dL_law_1106 : decode cL_law 1106 = .ok (.i2l, 1) := by decide +kernel
theorem dL_law_1107 : decode cL_law 1107 = .ok (.lcmp, 1) := by decide +kernel
theorem dL_law_1108 : decode cL_law 1108 = .ok (.ifCond .eq 5, 3) := by decide +kernel
theorem dL_law_1111 : decode cL_law 1111 = .ok (.iconst 0, 1) := by decide +kernel
theorem dL_law_1112 : decode cL_law 1112 = .ok (.ireturn, 1) := by decide +kernel
theorem dL_law_1113 : decode cL_law 1113 = .ok (.goto 188, 3) := by decide +kernel
theorem dL_law_1116 : decode cL_law 1116 = .ok (.aload_n 1, 1) := by decide +kernel
theorem dL_law_1117 : decode cL_law 1117 = .ok (.aload_n 0, 1) := by decide +kernel
theorem dL_law_1118 : decode cL_law 1118 = .ok (.iload 4, 2) := by decide +kernel
theorem dL_law_1120 : decode cL_law 1120 = .ok (.iconst 1, 1) := by decide +kernel
theorem dL_law_1121 : decode cL_law 1121 = .ok (.iadd, 1) := by decide +kernel
theorem dL_law_1122 : decode cL_law 1122 = .ok (.iaload, 1) := by decide +kernel
theorem dL_law_1123 : decode cL_law 1123 = .ok (.aload_n 0, 1) := by decide +kernel
theorem dL_law_1124 : decode cL_law 1124 = .ok (.iload 4, 2) := by decide +kernel
theorem dL_law_1126 : decode cL_law 1126 = .ok (.iconst 2, 1) := by decide +kernel
theorem dL_law_1127 : decode cL_law 1127 = .ok (.iadd, 1) := by decide +kernel
theorem dL_law_1128 : decode cL_law 1128 = .ok (.iaload, 1) := by decide +kernel
theorem dL_law_1129 : decode cL_law 1129 = .ok (.aload_n 0, 1) := by decide +kernel
theorem dL_law_1130 : decode cL_law 1130 = .ok (.iload 4, 2) := by decide +kernel
theorem dL_law_1132 : decode cL_law 1132 = .ok (.iconst 3, 1) := by decide +kernel
theorem dL_law_1133 : decode cL_law 1133 = .ok (.iadd, 1) := by decide +kernel
theorem dL_law_1134 : decode cL_law 1134 = .ok (.iaload, 1) := by decide +kernel
theorem dL_law_1135 : decode cL_law 1135 = .ok (.aload_n 3, 1) := by decide +kernel
theorem dL_law_1136 : decode cL_law 1136 = .ok (.invokestatic 119, 3) := by decide +kernel
theorem dL_law_1139 : decode cL_law 1139 = .ok (.istore 5, 2) := by decide +kernel
theorem dL_law_1141 : decode cL_law 1141 = .ok (.aload_n 2, 1) := by decide +kernel
theorem dL_law_1142 : decode cL_law 1142 = .ok (.aload_n 0, 1) := by decide +kernel
theorem dL_law_1143 : decode cL_law 1143 = .ok (.iload 4, 2) := by decide +kernel
theorem dL_law_1145 : decode cL_law 1145 = .ok (.iconst 1, 1) := by decide +kernel
theorem dL_law_1146 : decode cL_law 1146 = .ok (.iadd, 1) := by decide +kernel
theorem dL_law_1147 : decode cL_law 1147 = .ok (.iaload, 1) := by decide +kernel
theorem dL_law_1148 : decode cL_law 1148 = .ok (.aload_n 0, 1) := by decide +kernel
theorem dL_law_1149 : decode cL_law 1149 = .ok (.iload 4, 2) := by decide +kernel
theorem dL_law_1151 : decode cL_law 1151 = .ok (.iconst 2, 1) := by decide +kernel
theorem dL_law_1152 : decode cL_law 1152 = .ok (.iadd, 1) := by decide +kernel
theorem dL_law_1153 : decode cL_law 1153 = .ok (.iaload, 1) := by decide +kernel
theorem dL_law_1154 : decode cL_law 1154 = .ok (.aload_n 0, 1) := by decide +kernel
theorem dL_law_1155 : decode cL_law 1155 = .ok (.iload 4, 2) := by decide +kernel
theorem dL_law_1157 : decode cL_law 1157 = .ok (.iconst 3, 1) := by decide +kernel
theorem dL_law_1158 : decode cL_law 1158 = .ok (.iadd, 1) := by decide +kernel
theorem dL_law_1159 : decode cL_law 1159 = .ok (.iaload, 1) := by decide +kernel
theorem dL_law_1160 : decode cL_law 1160 = .ok (.invokevirtual 121, 3) := by decide +kernel
theorem dL_law_1163 : decode cL_law 1163 = .ok (.istore 6, 2) := by decide +kernel
theorem dL_law_1165 : decode cL_law 1165 = .ok (.aload_n 2, 1) := by decide +kernel
theorem dL_law_1166 : decode cL_law 1166 = .ok (.invokevirtual 75, 3) := by decide +kernel
theorem dL_law_1169 : decode cL_law 1169 = .ok (.iload 5, 2) := by decide +kernel
theorem dL_law_1171 : decode cL_law 1171 = .ok (.if_icmp .eq 5, 3) := by decide +kernel
theorem dL_law_1174 : decode cL_law 1174 = .ok (.iconst 0, 1) := by decide +kernel
theorem dL_law_1175 : decode cL_law 1175 = .ok (.ireturn, 1) := by decide +kernel
theorem dL_law_1176 : decode cL_law 1176 = .ok (.iload 5, 2) := by decide +kernel
theorem dL_law_1178 : decode cL_law 1178 = .ok (.ifCond .ne 15, 3) := by decide +kernel
theorem dL_law_1181 : decode cL_law 1181 = .ok (.aload_n 3, 1) := by decide +kernel
theorem dL_law_1182 : decode cL_law 1182 = .ok (.iconst 0, 1) := by decide +kernel
theorem dL_law_1183 : decode cL_law 1183 = .ok (.laload, 1) := by decide +kernel
theorem dL_law_1184 : decode cL_law 1184 = .ok (.iload 6, 2) := by decide +kernel
theorem dL_law_1186 : decode cL_law 1186 = .ok (.i2l, 1) := by decide +kernel
theorem dL_law_1187 : decode cL_law 1187 = .ok (.lcmp, 1) := by decide +kernel
theorem dL_law_1188 : decode cL_law 1188 = .ok (.ifCond .eq 5, 3) := by decide +kernel
theorem dL_law_1191 : decode cL_law 1191 = .ok (.iconst 0, 1) := by decide +kernel
theorem dL_law_1192 : decode cL_law 1192 = .ok (.ireturn, 1) := by decide +kernel
theorem dL_law_1193 : decode cL_law 1193 = .ok (.goto 108, 3) := by decide +kernel
theorem dL_law_1196 : decode cL_law 1196 = .ok (.aload_n 1, 1) := by decide +kernel
theorem dL_law_1197 : decode cL_law 1197 = .ok (.aload_n 0, 1) := by decide +kernel
theorem dL_law_1198 : decode cL_law 1198 = .ok (.iload 4, 2) := by decide +kernel
theorem dL_law_1200 : decode cL_law 1200 = .ok (.iconst 1, 1) := by decide +kernel
theorem dL_law_1201 : decode cL_law 1201 = .ok (.iadd, 1) := by decide +kernel
theorem dL_law_1202 : decode cL_law 1202 = .ok (.iaload, 1) := by decide +kernel
theorem dL_law_1203 : decode cL_law 1203 = .ok (.aload_n 0, 1) := by decide +kernel
theorem dL_law_1204 : decode cL_law 1204 = .ok (.iload 4, 2) := by decide +kernel
theorem dL_law_1206 : decode cL_law 1206 = .ok (.iconst 2, 1) := by decide +kernel
theorem dL_law_1207 : decode cL_law 1207 = .ok (.iadd, 1) := by decide +kernel
theorem dL_law_1208 : decode cL_law 1208 = .ok (.iaload, 1) := by decide +kernel
theorem dL_law_1209 : decode cL_law 1209 = .ok (.aload_n 0, 1) := by decide +kernel
theorem dL_law_1210 : decode cL_law 1210 = .ok (.iload 4, 2) := by decide +kernel
theorem dL_law_1212 : decode cL_law 1212 = .ok (.iconst 3, 1) := by decide +kernel
theorem dL_law_1213 : decode cL_law 1213 = .ok (.iadd, 1) := by decide +kernel
theorem dL_law_1214 : decode cL_law 1214 = .ok (.iaload, 1) := by decide +kernel
theorem dL_law_1215 : decode cL_law 1215 = .ok (.aload_n 0, 1) := by decide +kernel
theorem dL_law_1216 : decode cL_law 1216 = .ok (.iload 4, 2) := by decide +kernel
theorem dL_law_1218 : decode cL_law 1218 = .ok (.iconst 4, 1) := by decide +kernel
theorem dL_law_1219 : decode cL_law 1219 = .ok (.iadd, 1) := by decide +kernel
theorem dL_law_1220 : decode cL_law 1220 = .ok (.iaload, 1) := by decide +kernel
theorem dL_law_1221 : decode cL_law 1221 = .ok (.aload_n 3, 1) := by decide +kernel
theorem dL_law_1222 : decode cL_law 1222 = .ok (.invokestatic 122, 3) := by decide +kernel
theorem dL_law_1225 : decode cL_law 1225 = .ok (.istore 5, 2) := by decide +kernel
theorem dL_law_1227 : decode cL_law 1227 = .ok (.aload_n 2, 1) := by decide +kernel
theorem dL_law_1228 : decode cL_law 1228 = .ok (.aload_n 0, 1) := by decide +kernel
theorem dL_law_1229 : decode cL_law 1229 = .ok (.iload 4, 2) := by decide +kernel
theorem dL_law_1231 : decode cL_law 1231 = .ok (.iconst 1, 1) := by decide +kernel
theorem dL_law_1232 : decode cL_law 1232 = .ok (.iadd, 1) := by decide +kernel
theorem dL_law_1233 : decode cL_law 1233 = .ok (.iaload, 1) := by decide +kernel
theorem dL_law_1234 : decode cL_law 1234 = .ok (.aload_n 0, 1) := by decide +kernel
theorem dL_law_1235 : decode cL_law 1235 = .ok (.iload 4, 2) := by decide +kernel
theorem dL_law_1237 : decode cL_law 1237 = .ok (.iconst 2, 1) := by decide +kernel
theorem dL_law_1238 : decode cL_law 1238 = .ok (.iadd, 1) := by decide +kernel
theorem dL_law_1239 : decode cL_law 1239 = .ok (.iaload, 1) := by decide +kernel
theorem dL_law_1240 : decode cL_law 1240 = .ok (.aload_n 0, 1) := by decide +kernel
theorem dL_law_1241 : decode cL_law 1241 = .ok (.iload 4, 2) := by decide +kernel
theorem dL_law_1243 : decode cL_law 1243 = .ok (.iconst 3, 1) := by decide +kernel
theorem dL_law_1244 : decode cL_law 1244 = .ok (.iadd, 1) := by decide +kernel
theorem dL_law_1245 : decode cL_law 1245 = .ok (.iaload, 1) := by decide +kernel
theorem dL_law_1246 : decode cL_law 1246 = .ok (.aload_n 0, 1) := by decide +kernel
theorem dL_law_1247 : decode cL_law 1247 = .ok (.iload 4, 2) := by decide +kernel
theorem dL_law_1249 : decode cL_law 1249 = .ok (.iconst 4, 1) := by decide +kernel
theorem dL_law_1250 : decode cL_law 1250 = .ok (.iadd, 1) := by decide +kernel
theorem dL_law_1251 : decode cL_law 1251 = .ok (.iaload, 1) := by decide +kernel
theorem dL_law_1252 : decode cL_law 1252 = .ok (.invokevirtual 124, 3) := by decide +kernel
theorem dL_law_1255 : decode cL_law 1255 = .ok (.istore 6, 2) := by decide +kernel
theorem dL_law_1257 : decode cL_law 1257 = .ok (.aload_n 2, 1) := by decide +kernel
theorem dL_law_1258 : decode cL_law 1258 = .ok (.invokevirtual 75, 3) := by decide +kernel
theorem dL_law_1261 : decode cL_law 1261 = .ok (.iload 5, 2) := by decide +kernel
theorem dL_law_1263 : decode cL_law 1263 = .ok (.if_icmp .eq 5, 3) := by decide +kernel
theorem dL_law_1266 : decode cL_law 1266 = .ok (.iconst 0, 1) := by decide +kernel
theorem dL_law_1267 : decode cL_law 1267 = .ok (.ireturn, 1) := by decide +kernel
theorem dL_law_1268 : decode cL_law 1268 = .ok (.iload 5, 2) := by decide +kernel
theorem dL_law_1270 : decode cL_law 1270 = .ok (.ifCond .ne 15, 3) := by decide +kernel
theorem dL_law_1273 : decode cL_law 1273 = .ok (.aload_n 3, 1) := by decide +kernel
theorem dL_law_1274 : decode cL_law 1274 = .ok (.iconst 0, 1) := by decide +kernel
theorem dL_law_1275 : decode cL_law 1275 = .ok (.laload, 1) := by decide +kernel
theorem dL_law_1276 : decode cL_law 1276 = .ok (.iload 6, 2) := by decide +kernel
theorem dL_law_1278 : decode cL_law 1278 = .ok (.i2l, 1) := by decide +kernel
theorem dL_law_1279 : decode cL_law 1279 = .ok (.lcmp, 1) := by decide +kernel
theorem dL_law_1280 : decode cL_law 1280 = .ok (.ifCond .eq 5, 3) := by decide +kernel
theorem dL_law_1283 : decode cL_law 1283 = .ok (.iconst 0, 1) := by decide +kernel
theorem dL_law_1284 : decode cL_law 1284 = .ok (.ireturn, 1) := by decide +kernel
theorem dL_law_1285 : decode cL_law 1285 = .ok (.goto 16, 3) := by decide +kernel
theorem dL_law_1288 : decode cL_law 1288 = .ok (.aload_n 1, 1) := by decide +kernel
theorem dL_law_1289 : decode cL_law 1289 = .ok (.invokevirtual 125, 3) := by decide +kernel
theorem dL_law_1292 : decode cL_law 1292 = .ok (.aload_n 2, 1) := by decide +kernel
theorem dL_law_1293 : decode cL_law 1293 = .ok (.invokevirtual 128, 3) := by decide +kernel
theorem dL_law_1296 : decode cL_law 1296 = .ok (.if_icmp .eq 5, 3) := by decide +kernel
theorem dL_law_1299 : decode cL_law 1299 = .ok (.iconst 0, 1) := by decide +kernel
theorem dL_law_1300 : decode cL_law 1300 = .ok (.ireturn, 1) := by decide +kernel
theorem dL_law_1301 : decode cL_law 1301 = .ok (.iinc 4 5, 3) := by decide +kernel
theorem dL_law_1304 : decode cL_law 1304 = .ok (.goto (-1281), 3) := by decide +kernel
theorem dL_law_1307 : decode cL_law 1307 = .ok (.iconst 1, 1) := by decide +kernel
theorem dL_law_1308 : decode cL_law 1308 = .ok (.ireturn, 1) := by decide +kernel
end
section
/-! THE WORLD: an abstract heap (the next address, and what lies at each address), and the rows of the machine over it. A method's meaning is a plain function over abstract heaps, in results of type Rs; its machine row says that the method does what the function says. -/
-- ===== words
def gdL : List Cond := lw_tbl.filter goodWord
def ngW (w : Cond) : Bool := match w with
  | .fieldLinkNest .. => true
  | .methodLinkNest .. => true
  | .castable .. => true
  | _ => false
def ngL : List Cond := lw_tbl.filter ngW
theorem gdL_in {w : Cond} (i : Nat) (h : lw_tbl[i]? = some w) (hg : goodWord w = true) : w ∈ gdL := List.mem_filter.mpr ⟨List.mem_of_getElem? h, hg⟩
theorem ngL_in {w : Cond} (i : Nat) (h : lw_tbl[i]? = some w) (hg : ngW w = true) : w ∈ ngL := List.mem_filter.mpr ⟨List.mem_of_getElem? h, hg⟩
theorem gdL_good {w : Cond} (h : w ∈ gdL) : (w.onTables && w.keeps) = true ∨ ∃ ty, w = .arrayClass ty := good_of_word (List.mem_filter.mp h).2
theorem gdIn {ws : List Cond} (h : ∀ w ∈ ws, w ∈ gdL) : GoodIn gdL ws := fun w hw => ⟨h w hw, gdL_good (h w hw)⟩
theorem ngL_warm {w : Cond} (hw : w ∈ ngL) {s U : State} (hW : s.WarmedH U.vm) (h : va_Nw w s) : va_Nw w U := by
  have h1 := (List.mem_filter.mp hw).2
  cases w <;> first | exact va_Nw.warmF hW h | exact va_Nw.warmM hW h | exact va_Nw.warmC hW h | (simp [ngW] at h1)
theorem ngL_tab {w : Cond} (hw : w ∈ ngL) : w.onTables = true := by
  have h1 := (List.mem_filter.mp hw).2
  cases w <;> first | rfl | (simp [ngW] at h1)
-- ===== kinds of arrays, the classes whose arrays are made, the texts
def akT : List FieldType := [.int, .long, .object RX3, .object RX4, .object RX1, .object RX5, .object RX6]
def aoL : List String := [RX3, RX4, RX1, RX5, RX6]
def KT (cA : Nat → ClassId) : List (ClassId × FieldType) := [(cA 0, .int), (cA 1, .long), (cA 2, .object RX3), (cA 3, .object RX4), (cA 4, .object RX1), (cA 5, .object RX5), (cA 6, .object RX6)]
-- ===== abstract heaps
abbrev hpT : Type := Nat × (Nat → Option va_E)
def hset (hp : hpT) (a : Nat) (e : va_E) : hpT := (hp.1, fun b => if b = a then some e else hp.2 b)
def hpush (hp : hpT) (e : va_E) : hpT := (hp.1 + 1, fun b => if b = hp.1 then some e else hp.2 b)
def oO (ci : Nat) (fs : List Value) : va_E := .inr (ci, fs)
def oI (n : Nat) (f : Nat → Int32) : va_E := .inl (0, n, .inl f)
def oL (n : Nat) (f : Nat → Int64) : va_E := .inl (1, n, .inr (.inl f))
def oR (k n : Nat) (f : Nat → Option Nat) : va_E := .inl (k, n, .inr (.inr (.inr (.inr f))))
def wdE (D : va_G) (cA : Nat → ClassId) (a : Nat) (e : va_E) (H : Heap) : Prop := match e with
  | .inl x => H[a]? = some (vp_cell (cA x.1) x.2)
  | .inr o => va_at D vwCl (a, .inr o) H
def WdX (D : va_G) (cA : Nat → ClassId) (h0 : Nat) (hp : hpT) (H : Heap) : Prop := h0 ≤ H.size ∧ ∀ (a : Nat) (e : va_E), hp.2 a = some e → h0 ≤ a ∧ wdE D cA a e H
def Wd (D : va_G) (cA : Nat → ClassId) (h0 : Nat) (hp : hpT) (H : Heap) : Prop := H.size = hp.1 ∧ WdX D cA h0 hp H
abbrev Af (h0 : Nat) : Nat → Prop := fun q => h0 ≤ q
-- ===== what the tables say, at a method's start
def Kx (strs : List (String × Nat × String)) (D : va_G) (cA : Nat → ClassId) (h0 : Nat) (U : State) : Prop :=
  va_K D vwCl (KT cA) U ∧ (∀ w ∈ ngL, va_Nw w U) ∧ (∀ C ∈ aoL, va_AO C U) ∧ (∀ q ∈ strs, ∃ a, vk_R q.1 q.2.1 q.2.2 a U) ∧
  vx_Zq Bundle.tN "UNASSIGNED_STACK" Bundle.steD (Af h0) U U.heap ∧ vx_Zq Bundle.tN "SUPPRESSED_SENTINEL" Bundle.listD (Af h0) U U.heap ∧ h0 ≤ U.heap.size
theorem Kx.to {strs : List (String × Nat × String)} {D : va_G} {cA : Nat → ClassId} {h0 : Nat} {s U : State} (h : Kx strs D cA h0 s) (hW : s.WarmedH U.vm) (hz : s.heap.size ≤ U.heap.size) (hq : ∀ a : Nat, a < s.heap.size → ¬ Af h0 a → U.heap[a]? = s.heap[a]?) : Kx strs D cA h0 U := by
  obtain ⟨h1, h2, h3, h4, h5, h6, h7⟩ := h
  refine ⟨va_K.moved hW.alike h1, fun w hw => ngL_warm hw hW (h2 w hw), fun C hC => va_AO.moved hW.alike (h3 C hC), fun q hq => ?_, (vx_Zq.moved hW.alike h5).kept hq, (vx_Zq.moved hW.alike h6).kept hq, Nat.le_trans h7 hz⟩
  obtain ⟨a, ha⟩ := h4 q hq
  exact ⟨a, vk_R.warm hW ha⟩
def Pre (strs : List (String × Nat × String)) (D : va_G) (cA : Nat → ClassId) (h0 : Nat) (hp : hpT) (U : State) : Prop := Wd D cA h0 hp U.heap ∧ Kx strs D cA h0 U
-- ===== worlds: rows
theorem WdX.keep {D : va_G} {cA : Nat → ClassId} {h0 : Nat} {hp : hpT} {H H1 : Heap} (h : WdX D cA h0 hp H) (hz : H.size ≤ H1.size) (hq : ∀ a : Nat, a < H.size → H1[a]? = H[a]?) : WdX D cA h0 hp H1 := by
  refine ⟨Nat.le_trans h.1 hz, fun a e he => ?_⟩
  obtain ⟨h1, h2⟩ := h.2 a e he
  refine ⟨h1, ?_⟩
  cases e with
  | inl x =>
    have h3 : H[a]? = some (vp_cell (cA x.1) x.2) := h2
    exact (hq a (Array.getElem?_eq_some_iff.mp h3).1).trans h3
  | inr o =>
    have h3 : va_at D vwCl (a, .inr o) H := h2
    exact h3.kept (hq a h3.lt)
theorem Wd.lt {D : va_G} {cA : Nat → ClassId} {h0 : Nat} {hp : hpT} {H : Heap} (h : Wd D cA h0 hp H) {a : Nat} {e : va_E} (he : hp.2 a = some e) : a < hp.1 := by
  rw [← h.1]
  have h2 := (h.2.2 a e he).2
  cases e with
  | inl x => exact (Array.getElem?_eq_some_iff.mp (show H[a]? = some _ from h2)).1
  | inr o => exact (show va_at D vwCl (a, .inr o) H from h2).lt
theorem Wd.set {D : va_G} {cA : Nat → ClassId} {h0 : Nat} {hp : hpT} {H H1 : Heap} {a : Nat} {e0 e : va_E} (h : Wd D cA h0 hp H) (ha : hp.2 a = some e0) (hz : H1.size = H.size) (he : wdE D cA a e H1) (oq : ∀ q : Nat, q ≠ a → H1[q]? = H[q]?) : Wd D cA h0 (hset hp a e) H1 := by
  refine ⟨hz.trans h.1, by rw [hz]; exact h.2.1, fun b e' hb => ?_⟩
  by_cases hba : b = a
  · subst hba
    have : e' = e := by
      have h1 : (if b = b then some e else hp.2 b) = some e' := hb
      rw [if_pos rfl] at h1
      exact (Option.some.inj h1).symm
    subst this
    exact ⟨(h.2.2 b e0 ha).1, he⟩
  · have h1 : (if b = a then some e else hp.2 b) = some e' := hb
    rw [if_neg hba] at h1
    obtain ⟨g1, g2⟩ := h.2.2 b e' h1
    refine ⟨g1, ?_⟩
    cases e' with
    | inl x => exact (oq b hba).trans (show H[b]? = some _ from g2)
    | inr o => exact (show va_at D vwCl (b, .inr o) H from g2).kept (oq b hba)
theorem Wd.push {D : va_G} {cA : Nat → ClassId} {h0 : Nat} {hp : hpT} {H H1 : Heap} {e : va_E} (h : Wd D cA h0 hp H) (hz : H1.size = H.size + 1) (he : wdE D cA H.size e H1) (oq : ∀ q : Nat, q < H.size → H1[q]? = H[q]?) : Wd D cA h0 (hpush hp e) H1 := by
  refine ⟨by rw [hz, h.1]; rfl, by rw [hz]; exact Nat.le_succ_of_le h.2.1, fun b e' hb => ?_⟩
  by_cases hba : b = hp.1
  · have h1 : (if b = hp.1 then some e else hp.2 b) = some e' := hb
    rw [if_pos hba] at h1
    cases h1
    rw [hba, ← h.1]
    exact ⟨h.2.1, he⟩
  · have h1 : (if b = hp.1 then some e else hp.2 b) = some e' := hb
    rw [if_neg hba] at h1
    exact (h.2.keep (by omega) oq).2 b e' h1
theorem Wd.obj {D : va_G} {cA : Nat → ClassId} {h0 : Nat} {hp : hpT} {H : Heap} (h : Wd D cA h0 hp H) {a : Nat} {o : Nat × List Value} (he : hp.2 a = some (.inr o)) : va_P D vwCl [(a, .inr o)] H := by
  intro k q hk
  have hz : k < 1 := (List.getElem?_eq_some_iff.mp hk).1
  rw [show k = 0 by omega] at hk
  cases hk
  exact (h.2.2 a _ he).2
theorem Wd.arr {D : va_G} {cA : Nat → ClassId} {h0 : Nat} {hp : hpT} {H : Heap} (h : Wd D cA h0 hp H) {a : Nat} {x : Nat × vp_A} (he : hp.2 a = some (.inl x)) : va_P D vwCl [(a, .inl (cA x.1, x.2))] H := by
  intro k q hk
  have hz : k < 1 := (List.getElem?_eq_some_iff.mp hk).1
  rw [show k = 0 by omega] at hk
  cases hk
  exact (h.2.2 a _ he).2
-- ===== results
abbrev Rs (α : Type) : Type := Option ((α ⊕ String) × hpT)
def rtv {α : Type} (v : α) (hp : hpT) : Rs α := some (.inl v, hp)
def tht {α : Type} (E : String) (hp : hpT) : Rs α := some (.inr E, hp)
def rtZ (v : Int32) (hp : hpT) : Rs Int32 := if v = 0 ∨ v = 1 then some (.inl v, hp) else none
def bnd {α β : Type} (x : Rs α) (K : α → hpT → Rs β) : Rs β := match x with
  | some (.inl v, hp) => K v hp
  | some (.inr E, hp) => some (.inr E, hp)
  | none => none
theorem bnd_inv {α β : Type} {x : Rs α} {K : α → hpT → Rs β} {res : (β ⊕ String) × hpT} (h : bnd x K = some res) : ∃ r1, x = some r1 ∧ (∀ v, r1.1 = .inl v → K v r1.2 = some res) ∧ (∀ E, r1.1 = .inr E → res = (.inr E, r1.2)) := by
  match x, h with
  | some (.inl v, hp), h => exact ⟨_, rfl, fun w hw => (by cases hw; exact h), fun E hE => (by cases hE)⟩
  | some (.inr E, hp), h => exact ⟨_, rfl, fun w hw => (by cases hw), fun E' hE => (by cases hE; exact (Option.some.inj h).symm)⟩
  | none, h => cases h
def nn {α : Type} (r : Option Nat) (K : Nat → Rs α) : Rs α := match r with
  | some a => K a
  | none => none
def nlc {α : Type} (r : Option Nat) (A : Rs α) (B : Nat → Rs α) : Rs α := match r with
  | some a => B a
  | none => A
def gfI {α : Type} (hp : hpT) (a ci k : Nat) (K : Int32 → Rs α) : Rs α := match hp.2 a with
  | some (.inr o) => if o.1 = ci then (match o.2[k]? with
    | some (.int x) => K x
    | _ => none) else none
  | _ => none
def gfR {α : Type} (hp : hpT) (a ci k : Nat) (K : Option Nat → Rs α) : Rs α := match hp.2 a with
  | some (.inr o) => if o.1 = ci then (match o.2[k]? with
    | some (.ref x) => K (some x)
    | some .null => K none
    | _ => none) else none
  | _ => none
def pf {α : Type} (hp : hpT) (a ci k : Nat) (v : Value) (K : hpT → Rs α) : Rs α := match hp.2 a with
  | some (.inr o) => if o.1 = ci ∧ k < o.2.length then K (hset hp a (.inr (ci, o.2.set k v))) else none
  | _ => none
def isO {α : Type} (hp : hpT) (a ci : Nat) (K : Rs α) : Rs α := match hp.2 a with
  | some (.inr o) => if o.1 = ci then K else none
  | _ => none
def inb (i : Int32) (n : Nat) : Prop := 0 ≤ i.toInt ∧ i.toInt < n
theorem inb_in {i : Int32} {n : Nat} (h : inb i n) : vp_in i n := vp_in_iff.mpr h
def ald {α : Type} (hp : hpT) (a : Nat) (i : Int32) (K : Int32 → Rs α) : Rs α := match hp.2 a with
  | some (.inl (k, n, .inl f)) => if k = 0 ∧ (0 ≤ i.toInt ∧ i.toInt < n) then K (f i.toNatClampNeg) else none
  | _ => none
def ast {α : Type} (hp : hpT) (a : Nat) (i x : Int32) (K : hpT → Rs α) : Rs α := match hp.2 a with
  | some (.inl (k, n, .inl f)) => if k = 0 ∧ (0 ≤ i.toInt ∧ i.toInt < n) then K (hset hp a (oI n (upd f i.toNatClampNeg x))) else none
  | _ => none
def aldL {α : Type} (hp : hpT) (a : Nat) (i : Int32) (K : Int64 → Rs α) : Rs α := match hp.2 a with
  | some (.inl (k, n, .inr (.inl f))) => if k = 1 ∧ (0 ≤ i.toInt ∧ i.toInt < n) then K (f i.toNatClampNeg) else none
  | _ => none
def astL {α : Type} (hp : hpT) (a : Nat) (i : Int32) (x : Int64) (K : hpT → Rs α) : Rs α := match hp.2 a with
  | some (.inl (k, n, .inr (.inl f))) => if k = 1 ∧ (0 ≤ i.toInt ∧ i.toInt < n) then K (hset hp a (oL n (vp_updL f i.toNatClampNeg x))) else none
  | _ => none
def aldR {α : Type} (hp : hpT) (k0 a : Nat) (i : Int32) (K : Option Nat → Rs α) : Rs α := match hp.2 a with
  | some (.inl (k, n, .inr (.inr (.inr (.inr f))))) => if k = k0 ∧ (0 ≤ i.toInt ∧ i.toInt < n) then K (f i.toNatClampNeg) else none
  | _ => none
def astR {α : Type} (hp : hpT) (k0 ci a : Nat) (i : Int32) (v : Nat) (K : hpT → Rs α) : Rs α := match hp.2 a with
  | some (.inl (k, n, .inr (.inr (.inr (.inr f))))) => if k = k0 ∧ (0 ≤ i.toInt ∧ i.toInt < n) then isO hp v ci (K (hset hp a (oR k0 n (va_up f i.toNatClampNeg (some v))))) else none
  | _ => none
def alen {α : Type} (hp : hpT) (a : Nat) (K : Int32 → Rs α) : Rs α := match hp.2 a with
  | some (.inl (k, n, _)) => if k < 7 then K (Int32.ofNat n) else none
  | _ => none
def nz {α : Type} (y : Int32) (K : Rs α) : Rs α := if y = 0 then none else K
def irm (x y : Int32) : Int32 := x - x / y * y
def newO {α : Type} (hp : hpT) (ci : Nat) (fs : List Value) (K : Nat → hpT → Rs α) : Rs α := K hp.1 (hpush hp (oO ci fs))
def newI {α : Type} (hp : hpT) (n : Nat) (K : Nat → hpT → Rs α) : Rs α := K hp.1 (hpush hp (oI n (fun _ => 0)))
def newL {α : Type} (hp : hpT) (n : Nat) (K : Nat → hpT → Rs α) : Rs α := K hp.1 (hpush hp (oL n (fun _ => 0)))
def newR {α : Type} (hp : hpT) (k n : Nat) (K : Nat → hpT → Rs α) : Rs α := K hp.1 (hpush hp (oR k n (fun _ => none)))
-- ===== the inversions
theorem nn_inv {α : Type} {r : Option Nat} {K : Nat → Rs α} {z : (α ⊕ String) × hpT} (h : nn r K = some z) : ∃ a, r = some a ∧ K a = some z := by
  cases r with
  | none => cases h
  | some a => exact ⟨a, rfl, h⟩
theorem gfI_inv {α : Type} {hp : hpT} {a ci k : Nat} {K : Int32 → Rs α} {z : (α ⊕ String) × hpT} (h : gfI hp a ci k K = some z) : ∃ fs x, hp.2 a = some (.inr (ci, fs)) ∧ fs[k]? = some (.int x) ∧ K x = some z := by
  unfold gfI at h
  split at h
  · rename_i o ho
    split at h
    · rename_i hc
      split at h
      · rename_i x hx
        exact ⟨o.2, x, by rw [ho, ← hc], hx, h⟩
      · cases h
    · cases h
  · cases h
theorem gfR_inv {α : Type} {hp : hpT} {a ci k : Nat} {K : Option Nat → Rs α} {z : (α ⊕ String) × hpT} (h : gfR hp a ci k K = some z) : ∃ fs r, hp.2 a = some (.inr (ci, fs)) ∧ fs[k]? = some (va_rf r) ∧ K r = some z := by
  unfold gfR at h
  split at h
  · rename_i o ho
    split at h
    · rename_i hc
      split at h
      · rename_i x hx
        exact ⟨o.2, some x, by rw [ho, ← hc], hx, h⟩
      · rename_i hx
        exact ⟨o.2, none, by rw [ho, ← hc], hx, h⟩
      · cases h
    · cases h
  · cases h
theorem pf_inv {α : Type} {hp : hpT} {a ci k : Nat} {v : Value} {K : hpT → Rs α} {z : (α ⊕ String) × hpT} (h : pf hp a ci k v K = some z) : ∃ fs, hp.2 a = some (.inr (ci, fs)) ∧ k < fs.length ∧ K (hset hp a (.inr (ci, fs.set k v))) = some z := by
  unfold pf at h
  split at h
  · rename_i o ho
    split at h
    · rename_i hc
      exact ⟨o.2, by rw [ho, ← hc.1], hc.2, h⟩
    · cases h
  · cases h
theorem isO_inv {α : Type} {hp : hpT} {a ci : Nat} {K : Rs α} {z : (α ⊕ String) × hpT} (h : isO hp a ci K = some z) : ∃ fs, hp.2 a = some (.inr (ci, fs)) ∧ K = some z := by
  unfold isO at h
  split at h
  · rename_i o ho
    split at h
    · rename_i hc
      exact ⟨o.2, by rw [ho, ← hc], h⟩
    · cases h
  · cases h
theorem ald_inv {α : Type} {hp : hpT} {a : Nat} {i : Int32} {K : Int32 → Rs α} {z : (α ⊕ String) × hpT} (h : ald hp a i K = some z) : ∃ n f, hp.2 a = some (.inl (0, n, .inl f)) ∧ inb i n ∧ K (f i.toNatClampNeg) = some z := by
  unfold ald at h
  split at h
  · rename_i k n f ho
    split at h
    · rename_i hc
      exact ⟨n, f, by rw [ho, hc.1], hc.2, h⟩
    · cases h
  · cases h
theorem ast_inv {α : Type} {hp : hpT} {a : Nat} {i x : Int32} {K : hpT → Rs α} {z : (α ⊕ String) × hpT} (h : ast hp a i x K = some z) : ∃ n f, hp.2 a = some (.inl (0, n, .inl f)) ∧ inb i n ∧ K (hset hp a (oI n (upd f i.toNatClampNeg x))) = some z := by
  unfold ast at h
  split at h
  · rename_i k n f ho
    split at h
    · rename_i hc
      exact ⟨n, f, by rw [ho, hc.1], hc.2, h⟩
    · cases h
  · cases h
theorem aldL_inv {α : Type} {hp : hpT} {a : Nat} {i : Int32} {K : Int64 → Rs α} {z : (α ⊕ String) × hpT} (h : aldL hp a i K = some z) : ∃ n f, hp.2 a = some (.inl (1, n, .inr (.inl f))) ∧ inb i n ∧ K (f i.toNatClampNeg) = some z := by
  unfold aldL at h
  split at h
  · rename_i k n f ho
    split at h
    · rename_i hc
      exact ⟨n, f, by rw [ho, hc.1], hc.2, h⟩
    · cases h
  · cases h
theorem astL_inv {α : Type} {hp : hpT} {a : Nat} {i : Int32} {x : Int64} {K : hpT → Rs α} {z : (α ⊕ String) × hpT} (h : astL hp a i x K = some z) : ∃ n f, hp.2 a = some (.inl (1, n, .inr (.inl f))) ∧ inb i n ∧ K (hset hp a (oL n (vp_updL f i.toNatClampNeg x))) = some z := by
  unfold astL at h
  split at h
  · rename_i k n f ho
    split at h
    · rename_i hc
      exact ⟨n, f, by rw [ho, hc.1], hc.2, h⟩
    · cases h
  · cases h
theorem aldR_inv {α : Type} {hp : hpT} {k0 a : Nat} {i : Int32} {K : Option Nat → Rs α} {z : (α ⊕ String) × hpT} (h : aldR hp k0 a i K = some z) : ∃ n f, hp.2 a = some (.inl (k0, n, .inr (.inr (.inr (.inr f))))) ∧ inb i n ∧ K (f i.toNatClampNeg) = some z := by
  unfold aldR at h
  split at h
  · rename_i k n f ho
    split at h
    · rename_i hc
      exact ⟨n, f, by rw [ho, hc.1], hc.2, h⟩
    · cases h
  · cases h
theorem astR_inv {α : Type} {hp : hpT} {k0 ci a : Nat} {i : Int32} {v : Nat} {K : hpT → Rs α} {z : (α ⊕ String) × hpT} (h : astR hp k0 ci a i v K = some z) : ∃ n f fs, hp.2 a = some (.inl (k0, n, .inr (.inr (.inr (.inr f))))) ∧ inb i n ∧ hp.2 v = some (.inr (ci, fs)) ∧ K (hset hp a (oR k0 n (va_up f i.toNatClampNeg (some v)))) = some z := by
  unfold astR at h
  split at h
  · rename_i k n f ho
    split at h
    · rename_i hc
      obtain ⟨fs, q1, q2⟩ := isO_inv h
      exact ⟨n, f, fs, by rw [ho, hc.1], hc.2, q1, q2⟩
    · cases h
  · cases h
theorem alen_inv {α : Type} {hp : hpT} {a : Nat} {K : Int32 → Rs α} {z : (α ⊕ String) × hpT} (h : alen hp a K = some z) : ∃ k n x, hp.2 a = some (.inl (k, n, x)) ∧ k < 7 ∧ K (Int32.ofNat n) = some z := by
  unfold alen at h
  split at h
  · rename_i k n x ho
    split at h
    · rename_i hk
      exact ⟨k, n, x, ho, hk, h⟩
    · cases h
  · cases h
theorem nz_inv {α : Type} {y : Int32} {K : Rs α} {z : (α ⊕ String) × hpT} (h : nz y K = some z) : ¬ y = 0 ∧ K = some z := by
  unfold nz at h
  split at h
  · cases h
  · rename_i hy
    exact ⟨hy, h⟩
theorem rtZ_inv {v : Int32} {hp : hpT} {z : (Int32 ⊕ String) × hpT} (h : rtZ v hp = some z) : (v = 0 ∨ v = 1) ∧ z = (.inl v, hp) := by
  unfold rtZ at h
  split at h
  · rename_i hv
    exact ⟨hv, (Option.some.inj h).symm⟩
  · cases h
end
section
/-! THE ROWS over the world: G, a method's frame at pc with locals lv and stack st over the abstract heap hp; each row turns G behind an instruction into G at it -/
def lvP (ls : Array Slot) (nL : Nat) (lv : List (Option Value)) : Prop := ls.size = nL ∧ lv_wf ls ∧ ∀ (i : Nat) (v : Value), lv[i]? = some (some v) → v.category = 1 ∧ ls[i]? = some (.val v)
theorem lvP.at {ls : Array Slot} {nL : Nat} {lv : List (Option Value)} (h : lvP ls nL lv) {i : Nat} {v : Value} (hi : lv[i]? = some (some v)) : ls[i]? = some (.val v) := (h.2.2 i v hi).2
def wkl : List (Option Value) → List (Option Value) → Prop
  | [], _ => True
  | none :: a, [] => wkl a []
  | none :: a, _ :: b => wkl a b
  | some _ :: _, [] => False
  | some v :: a, w :: b => w = some v ∧ wkl a b
theorem wkl_at : ∀ (l2 l : List (Option Value)), wkl l2 l → ∀ (i : Nat) (v : Value), l2[i]? = some (some v) → l[i]? = some (some v)
  | [], _, _, i, v, h => by simp at h
  | none :: a, [], hw, i, v, h => by
    cases i with
    | zero => simp at h
    | succ i =>
      have h1 := wkl_at a [] hw i v (by simpa using h)
      simp at h1
  | none :: a, _ :: b, hw, i, v, h => by
    cases i with
    | zero => simp at h
    | succ i => simpa using wkl_at a b hw i v (by simpa using h)
  | some x :: a, [], hw, i, v, h => hw.elim
  | some x :: a, w :: b, hw, i, v, h => by
    cases i with
    | zero =>
      simp only [List.getElem?_cons_zero, Option.some.injEq] at h ⊢
      rw [hw.1, h]
    | succ i => simpa using wkl_at a b hw.2 i v (by simpa using h)
theorem lvP.weak {ls : Array Slot} {nL : Nat} {l l2 : List (Option Value)} (h : lvP ls nL l) (hw : wkl l2 l) : lvP ls nL l2 := ⟨h.1, h.2.1, fun i v hi => h.2.2 i v (wkl_at l2 l hw i v hi)⟩
def lvE (lv : List (Option Value)) : List (Nat × Value) := (List.range lv.length).filterMap (fun j => match lv[j]? with
  | some (some v) => some (j, v)
  | _ => none)
theorem lvE_mem {lv : List (Option Value)} {j : Nat} {v : Value} : (j, v) ∈ lvE lv ↔ lv[j]? = some (some v) := by
  unfold lvE
  rw [List.mem_filterMap]
  constructor
  · rintro ⟨i, hi, h⟩
    split at h
    · rename_i w hw
      cases h
      exact hw
    · cases h
  · intro h
    refine ⟨j, List.mem_range.mpr (List.getElem?_eq_some_iff.mp h).1, ?_⟩
    rw [h]
theorem lvP.store {ls : Array Slot} {nL : Nat} {lv : List (Option Value)} (h : lvP ls nL lv) {i : Nat} {v : Value} (hc : v.category = 1) (hi : i < nL) : ∃ ls', storeLocals ls i v = some ls' ∧ lvP ls' nL (lv.set i (some v)) := by
  obtain ⟨h1, h2, h3⟩ := h
  have hh : lv_has ls nL (lvE lv) := ⟨h1, h2, fun q hq => (h3 q.1 q.2 (lvE_mem.mp (by cases q; exact hq))).2⟩
  obtain ⟨ls', e1, g1, g2, g3⟩ := lv_store1 (v := v) hh hi hc
  refine ⟨ls', e1, g1, g2, fun j w hj => ?_⟩
  by_cases hij : i = j
  · subst hij
    by_cases hl : i < lv.length
    · rw [List.getElem?_set_self hl] at hj
      cases hj
      exact ⟨hc, g3 (i, v) List.mem_cons_self⟩
    · rw [List.getElem?_eq_none (by rw [List.length_set]; omega)] at hj
      cases hj
  · rw [List.getElem?_set_ne hij] at hj
    obtain ⟨c1, c2⟩ := h3 j w hj
    refine ⟨c1, g3 (j, w) (List.mem_cons_of_mem _ (List.mem_filter.mpr ⟨lvE_mem.mpr hj, ?_⟩))⟩
    have n1 : (j == i) = false := by simp; exact fun e => hij e.symm
    show (!(j == i) && !(j + 1 == i && w.category == 2)) = true
    rw [n1, c1]
    simp
/-- what holds of a method's start: the machine, the code, the class, the words, the tables -/
def Cx (strs : List (String × Nat × String)) (D : va_G) (cA : Nat → ClassId) (h0 : Nat) (p : Program) (l : Launch) (s : State) (m : MethodId) (args : Array Value) (meth : Method) (c : Code) (cc : ByteArray) (own : String) (nL : Nat) : Prop :=
  p.tables.exec = Jvm.exec ∧ c.code = cc ∧ c.maxLocals = nL ∧ s.vm.findClass own = some m.cls ∧ (∀ w ∈ gdL, w.before args s = true) ∧ Kx strs D cA h0 s ∧ l.stackTraces = false ∧ meth.locks = false
def QI (D : va_G) (cA : Nat → ClassId) (h0 : Nat) (res : (Int32 ⊕ String) × hpT) : Array Value → State → Outcome → State → Prop := va_Qi (S := Unit) (fun r _ => res.1 = .inl r) (fun _ t => Wd D cA h0 res.2 t.heap) (Af h0)
def QV (D : va_G) (cA : Nat → ClassId) (h0 : Nat) (res : (Unit ⊕ String) × hpT) : Array Value → State → Outcome → State → Prop := va_Qv (S := Unit) (fun _ => res.1 = .inl ()) (fun _ t => Wd D cA h0 res.2 t.heap) (Af h0)
def QR (D : va_G) (cA : Nat → ClassId) (h0 : Nat) (res : (Nat ⊕ String) × hpT) : Array Value → State → Outcome → State → Prop := va_Qq (S := Unit) (fun r _ => ∃ a, r = some a ∧ res.1 = .inl a) (fun _ t => Wd D cA h0 res.2 t.heap) (Af h0)
def XE {α : Type} (D : va_G) (cA : Nat → ClassId) (h0 : Nat) (res : (α ⊕ String) × hpT) : String → State → State → Prop := vx_X (S := Unit) (fun _ => True) (fun E _ t => res.1 = .inr E ∧ WdX D cA h0 res.2 t.heap) (Af h0)
section GG
variable {strs : List (String × Nat × String)} {D : va_G} {cA : Nat → ClassId} {h0 : Nat} {p : Program} {l : Launch} {e : Env} {R : Room} {s : State} {m : MethodId} {args : Array Value} {below : List Frame} {meth : Method} {c : Code} {nL cells slots : Nat} {Q : State → Prop} {hp : hpT} {pc : Nat} {lv : List (Option Value)} {st : List Value} {cc : ByteArray} {own : String}
def G (D : va_G) (cA : Nat → ClassId) (h0 : Nat) (p : Program) (l : Launch) (e : Env) (R : Room) (s : State) (m : MethodId) (args : Array Value) (below : List Frame) (meth : Method) (c : Code) (nL : Nat) (Q : State → Prop) (cells slots : Nat) (hp : hpT) (pc : Nat) (lv : List (Option Value)) (st : List Value) : Prop :=
  ∀ (H : Heap) (locs : List Loc) (ls : Array Slot), Wd D cA h0 hp H → va_S (Af h0) s.heap H locs → lvP ls nL lv → W p l e R s m args below meth c H locs cells slots Q (F0 m pc ls st)
theorem r_weak {lv2 : List (Option Value)} (hw : wkl lv2 lv) (k : G D cA h0 p l e R s m args below meth c nL Q cells slots hp pc lv2 st) : G D cA h0 p l e R s m args below meth c nL Q cells slots hp pc lv st := fun H locs ls h1 h2 h3 => k H locs ls h1 h2 (h3.weak hw)
theorem r_widen {k n : Nat} (h1 : cells ≤ k) (h2 : slots ≤ n) (kk : G D cA h0 p l e R s m args below meth c nL Q k n hp pc lv st) : G D cA h0 p l e R s m args below meth c nL Q cells slots hp pc lv st := fun H locs ls a1 a2 a3 => W.widen h1 h2 (kk H locs ls a1 a2 a3)
theorem r_ofW (K : Cx strs D cA h0 p l s m args meth c cc own nL) {g2 : Nat × List Value} (f : ∀ (H : Heap) (locs : List Loc) (ls : Array Slot), lvP ls nL lv → W p l e R s m args below meth c H locs cells slots Q (F0 m g2.1 ls g2.2) → W p l e R s m args below meth c H locs cells slots Q (F0 m pc ls st)) (k : G D cA h0 p l e R s m args below meth c nL Q cells slots hp g2.1 lv g2.2) : G D cA h0 p l e R s m args below meth c nL Q cells slots hp pc lv st := fun H locs ls a1 a2 a3 => f H locs ls a3 (k H locs ls a1 a2 a3)
theorem r_iconst (K : Cx strs D cA h0 p l s m args meth c cc own nL) {n : Int} {v : Int32} (d : decode cc pc = .ok (.iconst n, 1)) (hv : Int32.ofInt n = v) (k : G D cA h0 p l e R s m args below meth c nL Q cells slots hp (pc + 1) lv (.int v :: st)) : G D cA h0 p l e R s m args below meth c nL Q cells slots hp pc lv st := r_ofW K (g2 := (_, _)) (fun _ _ _ _ w => lv_iconst K.1 K.2.1 d hv w) k
theorem r_bipush (K : Cx strs D cA h0 p l s m args meth c cc own nL) {n : Int} {v : Int32} (d : decode cc pc = .ok (.bipush n, 2)) (hv : (Int8.ofInt n).toInt32 = v) (k : G D cA h0 p l e R s m args below meth c nL Q cells slots hp (pc + 2) lv (.int v :: st)) : G D cA h0 p l e R s m args below meth c nL Q cells slots hp pc lv st := r_ofW K (g2 := (_, _)) (fun _ _ _ _ w => lv_bipush K.1 K.2.1 d hv w) k
theorem r_sipush (K : Cx strs D cA h0 p l s m args meth c cc own nL) {n : Int} {v : Int32} (d : decode cc pc = .ok (.sipush n, 3)) (hv : (Int16.ofInt n).toInt32 = v) (k : G D cA h0 p l e R s m args below meth c nL Q cells slots hp (pc + 3) lv (.int v :: st)) : G D cA h0 p l e R s m args below meth c nL Q cells slots hp pc lv st := r_ofW K (g2 := (_, _)) (fun _ _ _ _ w => lv_sipush K.1 K.2.1 d hv w) k
theorem r_null (K : Cx strs D cA h0 p l s m args meth c cc own nL) (d : decode cc pc = .ok (.aconst_null, 1)) (k : G D cA h0 p l e R s m args below meth c nL Q cells slots hp (pc + 1) lv (va_rf none :: st)) : G D cA h0 p l e R s m args below meth c nL Q cells slots hp pc lv st := r_ofW K (g2 := (_, _)) (fun _ _ _ _ w => lv_null K.1 K.2.1 d w) k
theorem r_iload_n (K : Cx strs D cA h0 p l s m args meth c cc own nL) {j : Fin 4} {x : Int32} (d : decode cc pc = .ok (.iload_n j, 1)) (hx : lv[(j : Nat)]? = some (some (.int x))) (k : G D cA h0 p l e R s m args below meth c nL Q cells slots hp (pc + 1) lv (.int x :: st)) : G D cA h0 p l e R s m args below meth c nL Q cells slots hp pc lv st := r_ofW K (g2 := (_, _)) (fun _ _ _ a w => lv_iload_n K.1 K.2.1 d rfl (a.at hx) w) k
theorem r_iload (K : Cx strs D cA h0 p l s m args meth c cc own nL) {j : Nat} {x : Int32} (d : decode cc pc = .ok (.iload j, 2)) (hx : lv[j]? = some (some (.int x))) (k : G D cA h0 p l e R s m args below meth c nL Q cells slots hp (pc + 2) lv (.int x :: st)) : G D cA h0 p l e R s m args below meth c nL Q cells slots hp pc lv st := r_ofW K (g2 := (_, _)) (fun _ _ _ a w => lv_iload K.1 K.2.1 d (a.at hx) w) k
theorem r_aload_n (K : Cx strs D cA h0 p l s m args meth c cc own nL) {j : Fin 4} {x : Option Nat} (d : decode cc pc = .ok (.aload_n j, 1)) (hx : lv[(j : Nat)]? = some (some (va_rf x))) (k : G D cA h0 p l e R s m args below meth c nL Q cells slots hp (pc + 1) lv (va_rf x :: st)) : G D cA h0 p l e R s m args below meth c nL Q cells slots hp pc lv st := by
  cases x with
  | none => exact r_ofW K (g2 := (_, _)) (fun _ _ _ a w => lv_aload_nN K.1 K.2.1 d rfl (a.at hx) w) k
  | some x => exact r_ofW K (g2 := (_, _)) (fun _ _ _ a w => lv_aload_n K.1 K.2.1 d rfl (a.at hx) w) k
theorem r_aload (K : Cx strs D cA h0 p l s m args meth c cc own nL) {j : Nat} {x : Option Nat} (d : decode cc pc = .ok (.aload j, 2)) (hx : lv[j]? = some (some (va_rf x))) (k : G D cA h0 p l e R s m args below meth c nL Q cells slots hp (pc + 2) lv (va_rf x :: st)) : G D cA h0 p l e R s m args below meth c nL Q cells slots hp pc lv st := by
  cases x with
  | none => exact r_ofW K (g2 := (_, _)) (fun _ _ _ a w => lv_aloadN K.1 K.2.1 d (a.at hx) w) k
  | some x => exact r_ofW K (g2 := (_, _)) (fun _ _ _ a w => lv_aload K.1 K.2.1 d (a.at hx) w) k
theorem r_istore_n (K : Cx strs D cA h0 p l s m args meth c cc own nL) {j : Fin 4} {x : Int32} {lv' : List (Option Value)} (d : decode cc pc = .ok (.istore_n j, 1)) (hn : (j : Nat) < nL) (hl : lv.set (j : Nat) (some (.int x)) = lv') (k : G D cA h0 p l e R s m args below meth c nL Q cells slots hp (pc + 1) lv' st) : G D cA h0 p l e R s m args below meth c nL Q cells slots hp pc lv (.int x :: st) := by
  intro H locs ls a1 a2 a3 T hT X
  obtain ⟨ls', e', h'⟩ := a3.store (v := .int x) rfl hn
  rw [hl] at h'
  obtain ⟨t, a, b⟩ := k H locs ls' a1 a2 h' T hT X
  obtain ⟨hexec, hb, -⟩ := K
  refine ⟨t, ?_, b⟩
  jvm_step X.here [X.here.top, ↓top_set X.here.top, hexec, hb, d, e']
  exact a
theorem r_istore (K : Cx strs D cA h0 p l s m args meth c cc own nL) {j : Nat} {x : Int32} {lv' : List (Option Value)} (d : decode cc pc = .ok (.istore j, 2)) (hn : j < nL) (hl : lv.set j (some (.int x)) = lv') (k : G D cA h0 p l e R s m args below meth c nL Q cells slots hp (pc + 2) lv' st) : G D cA h0 p l e R s m args below meth c nL Q cells slots hp pc lv (.int x :: st) := by
  intro H locs ls a1 a2 a3 T hT X
  obtain ⟨ls', e', h'⟩ := a3.store (v := .int x) rfl hn
  rw [hl] at h'
  obtain ⟨t, a, b⟩ := k H locs ls' a1 a2 h' T hT X
  obtain ⟨hexec, hb, -⟩ := K
  refine ⟨t, ?_, b⟩
  jvm_step X.here [X.here.top, ↓top_set X.here.top, hexec, hb, d, e']
  exact a
theorem va_rf_cat (x : Option Nat) : (va_rf x).category = 1 := by cases x <;> rfl
theorem r_astore_n (K : Cx strs D cA h0 p l s m args meth c cc own nL) {j : Fin 4} {x : Option Nat} {lv' : List (Option Value)} (d : decode cc pc = .ok (.astore_n j, 1)) (hn : (j : Nat) < nL) (hl : lv.set (j : Nat) (some (va_rf x)) = lv') (k : G D cA h0 p l e R s m args below meth c nL Q cells slots hp (pc + 1) lv' st) : G D cA h0 p l e R s m args below meth c nL Q cells slots hp pc lv (va_rf x :: st) := by
  intro H locs ls a1 a2 a3 T hT X
  obtain ⟨ls', e', h'⟩ := a3.store (v := va_rf x) (va_rf_cat x) hn
  rw [hl] at h'
  obtain ⟨t, a, b⟩ := k H locs ls' a1 a2 h' T hT X
  obtain ⟨hexec, hb, -⟩ := K
  refine ⟨t, ?_, b⟩
  cases x <;> (simp only [va_rf] at e' ⊢; jvm_step X.here [X.here.top, ↓top_set X.here.top, hexec, hb, d, e', Value.isRef]; exact a)
theorem r_astore (K : Cx strs D cA h0 p l s m args meth c cc own nL) {j : Nat} {x : Option Nat} {lv' : List (Option Value)} (d : decode cc pc = .ok (.astore j, 2)) (hn : j < nL) (hl : lv.set j (some (va_rf x)) = lv') (k : G D cA h0 p l e R s m args below meth c nL Q cells slots hp (pc + 2) lv' st) : G D cA h0 p l e R s m args below meth c nL Q cells slots hp pc lv (va_rf x :: st) := by
  intro H locs ls a1 a2 a3 T hT X
  obtain ⟨ls', e', h'⟩ := a3.store (v := va_rf x) (va_rf_cat x) hn
  rw [hl] at h'
  obtain ⟨t, a, b⟩ := k H locs ls' a1 a2 h' T hT X
  obtain ⟨hexec, hb, -⟩ := K
  refine ⟨t, ?_, b⟩
  cases x <;> (simp only [va_rf] at e' ⊢; jvm_step X.here [X.here.top, ↓top_set X.here.top, hexec, hb, d, e', Value.isRef]; exact a)
theorem r_iinc (K : Cx strs D cA h0 p l s m args meth c cc own nL) {j : Nat} {n : Int} {x v : Int32} {lv' : List (Option Value)} (d : decode cc pc = .ok (.iinc j n, 3)) (hx : lv[j]? = some (some (.int x))) (hv : x + Int32.ofInt n = v) (hn : j < nL) (hl : lv.set j (some (.int v)) = lv') (k : G D cA h0 p l e R s m args below meth c nL Q cells slots hp (pc + 3) lv' st) : G D cA h0 p l e R s m args below meth c nL Q cells slots hp pc lv st := by
  intro H locs ls a1 a2 a3 T hT X
  obtain ⟨ls', e', h'⟩ := a3.store (v := .int v) rfl hn
  rw [hl] at h'
  have hg := a3.at hx
  obtain ⟨t, a, b⟩ := k H locs ls' a1 a2 h' T hT X
  obtain ⟨hexec, hb, -⟩ := K
  refine ⟨t, ?_, b⟩
  jvm_step X.here [X.here.top, ↓top_set X.here.top, hexec, hb, d, hg, hv, e']
  exact a
theorem r_iadd (K : Cx strs D cA h0 p l s m args meth c cc own nL) {x y : Int32} (d : decode cc pc = .ok (.iadd, 1)) (k : G D cA h0 p l e R s m args below meth c nL Q cells slots hp (pc + 1) lv (.int (x + y) :: st)) : G D cA h0 p l e R s m args below meth c nL Q cells slots hp pc lv (.int y :: .int x :: st) := r_ofW K (g2 := (_, _)) (fun _ _ _ _ w => lv_iadd K.1 K.2.1 d w) k
theorem r_isub (K : Cx strs D cA h0 p l s m args meth c cc own nL) {x y : Int32} (d : decode cc pc = .ok (.isub, 1)) (k : G D cA h0 p l e R s m args below meth c nL Q cells slots hp (pc + 1) lv (.int (x - y) :: st)) : G D cA h0 p l e R s m args below meth c nL Q cells slots hp pc lv (.int y :: .int x :: st) := r_ofW K (g2 := (_, _)) (fun _ _ _ _ w => lv_isub K.1 K.2.1 d w) k
theorem r_imul (K : Cx strs D cA h0 p l s m args meth c cc own nL) {x y : Int32} (d : decode cc pc = .ok (.imul, 1)) (k : G D cA h0 p l e R s m args below meth c nL Q cells slots hp (pc + 1) lv (.int (x * y) :: st)) : G D cA h0 p l e R s m args below meth c nL Q cells slots hp pc lv (.int y :: .int x :: st) := r_ofW K (g2 := (_, _)) (fun _ _ _ _ w => lv_imul K.1 K.2.1 d w) k
theorem r_ixor (K : Cx strs D cA h0 p l s m args meth c cc own nL) {x y : Int32} (d : decode cc pc = .ok (.ixor, 1)) (k : G D cA h0 p l e R s m args below meth c nL Q cells slots hp (pc + 1) lv (.int (x ^^^ y) :: st)) : G D cA h0 p l e R s m args below meth c nL Q cells slots hp pc lv (.int y :: .int x :: st) := r_ofW K (g2 := (_, _)) (fun _ _ _ _ w => lv_ixor K.1 K.2.1 d w) k
theorem r_iand (K : Cx strs D cA h0 p l s m args meth c cc own nL) {x y : Int32} (d : decode cc pc = .ok (.iand, 1)) (k : G D cA h0 p l e R s m args below meth c nL Q cells slots hp (pc + 1) lv (.int (x &&& y) :: st)) : G D cA h0 p l e R s m args below meth c nL Q cells slots hp pc lv (.int y :: .int x :: st) := r_ofW K (g2 := (_, _)) (fun _ _ _ _ w => lv_iand K.1 K.2.1 d w) k
theorem r_idiv {α : Type} {res : (α ⊕ String) × hpT} {F : Rs α} (K : Cx strs D cA h0 p l s m args meth c cc own nL) {x y : Int32} (d : decode cc pc = .ok (.idiv, 1)) (h : nz y F = some res) (k : F = some res → G D cA h0 p l e R s m args below meth c nL Q cells slots hp (pc + 1) lv (.int (x / y) :: st)) : G D cA h0 p l e R s m args below meth c nL Q cells slots hp pc lv (.int y :: .int x :: st) := r_ofW K (g2 := (_, _)) (fun _ _ _ _ w => lv_idiv K.1 K.2.1 d (nz_inv h).1 w) (k (nz_inv h).2)
theorem r_irem {α : Type} {res : (α ⊕ String) × hpT} {F : Rs α} (K : Cx strs D cA h0 p l s m args meth c cc own nL) {x y : Int32} (d : decode cc pc = .ok (.irem, 1)) (h : nz y F = some res) (k : F = some res → G D cA h0 p l e R s m args below meth c nL Q cells slots hp (pc + 1) lv (.int (irm x y) :: st)) : G D cA h0 p l e R s m args below meth c nL Q cells slots hp pc lv (.int y :: .int x :: st) := r_ofW K (g2 := (_, _)) (fun _ _ _ _ w => lv_irem K.1 K.2.1 d (nz_inv h).1 w) (k (nz_inv h).2)
theorem r_dup (K : Cx strs D cA h0 p l s m args meth c cc own nL) {v : Value} (d : decode cc pc = .ok (.dup, 1)) (hv : v.category = 1) (k : G D cA h0 p l e R s m args below meth c nL Q cells slots hp (pc + 1) lv (v :: v :: st)) : G D cA h0 p l e R s m args below meth c nL Q cells slots hp pc lv (v :: st) := r_ofW K (g2 := (_, _)) (fun _ _ _ _ w => lv_dup K.1 K.2.1 d hv w) k
theorem r_pop (K : Cx strs D cA h0 p l s m args meth c cc own nL) {v : Value} (d : decode cc pc = .ok (.pop, 1)) (hv : v.category = 1) (k : G D cA h0 p l e R s m args below meth c nL Q cells slots hp (pc + 1) lv st) : G D cA h0 p l e R s m args below meth c nL Q cells slots hp pc lv (v :: st) := r_ofW K (g2 := (_, _)) (fun _ _ _ _ w => lv_pop K.1 K.2.1 d hv w) k
theorem r_dup2 (K : Cx strs D cA h0 p l s m args meth c cc own nL) {v w : Value} (d : decode cc pc = .ok (.dup2, 1)) (hv : v.category = 1) (hw : w.category = 1) (k : G D cA h0 p l e R s m args below meth c nL Q cells slots hp (pc + 1) lv (v :: w :: v :: w :: st)) : G D cA h0 p l e R s m args below meth c nL Q cells slots hp pc lv (v :: w :: st) := r_ofW K (g2 := (_, _)) (fun _ _ _ _ k9 => lv_dup2_11 K.1 K.2.1 d hv hw k9) k
theorem r_goto (K : Cx strs D cA h0 p l s m args meth c cc own nL) {off : Int} {tgt : Nat} (d : decode cc pc = .ok (.goto off, 3)) (ht : (pc : Int) + off = (tgt : Int)) (k : G D cA h0 p l e R s m args below meth c nL Q cells slots hp tgt lv st) : G D cA h0 p l e R s m args below meth c nL Q cells slots hp pc lv st := r_ofW K (g2 := (_, _)) (fun _ _ _ _ w => lv_goto K.1 K.2.1 d ht w) k
-- branches: the function says 'if condition then target else next'
theorem r_if_eq {α : Type} {res : (α ⊕ String) × hpT} {Ft Ff : Rs α} {off : Int} {tgt : Nat} (K : Cx strs D cA h0 p l s m args meth c cc own nL) {x : Int32} (d : decode cc pc = .ok (.ifCond .eq off, 3)) (ht : (pc : Int) + off = (tgt : Int)) (h : (if x = 0 then Ft else Ff) = some res) (kt : Ft = some res → x = 0 → G D cA h0 p l e R s m args below meth c nL Q cells slots hp tgt lv st) (kf : Ff = some res → ¬ (x = 0) → G D cA h0 p l e R s m args below meth c nL Q cells slots hp (pc + 3) lv st) : G D cA h0 p l e R s m args below meth c nL Q cells slots hp pc lv (.int x :: st) := fun H locs ls a1 a2 a3 => lv_if_eq K.1 K.2.1 d ht (fun q => kt (by rw [if_pos q] at h; exact h) q H locs ls a1 a2 a3) (fun q => kf (by rw [if_neg q] at h; exact h) q H locs ls a1 a2 a3)
theorem r_icmp_eq {α : Type} {res : (α ⊕ String) × hpT} {Ft Ff : Rs α} {off : Int} {tgt : Nat} (K : Cx strs D cA h0 p l s m args meth c cc own nL) {x y : Int32} (d : decode cc pc = .ok (.if_icmp .eq off, 3)) (ht : (pc : Int) + off = (tgt : Int)) (h : (if x = y then Ft else Ff) = some res) (kt : Ft = some res → x = y → G D cA h0 p l e R s m args below meth c nL Q cells slots hp tgt lv st) (kf : Ff = some res → ¬ (x = y) → G D cA h0 p l e R s m args below meth c nL Q cells slots hp (pc + 3) lv st) : G D cA h0 p l e R s m args below meth c nL Q cells slots hp pc lv (.int y :: .int x :: st) := fun H locs ls a1 a2 a3 => lv_icmp_eq K.1 K.2.1 d ht (fun q => kt (by rw [if_pos q] at h; exact h) q H locs ls a1 a2 a3) (fun q => kf (by rw [if_neg q] at h; exact h) q H locs ls a1 a2 a3)
theorem r_if_ne {α : Type} {res : (α ⊕ String) × hpT} {Ft Ff : Rs α} {off : Int} {tgt : Nat} (K : Cx strs D cA h0 p l s m args meth c cc own nL) {x : Int32} (d : decode cc pc = .ok (.ifCond .ne off, 3)) (ht : (pc : Int) + off = (tgt : Int)) (h : (if x = 0 then Ff else Ft) = some res) (kt : Ft = some res → ¬ (x = 0) → G D cA h0 p l e R s m args below meth c nL Q cells slots hp tgt lv st) (kf : Ff = some res → x = 0 → G D cA h0 p l e R s m args below meth c nL Q cells slots hp (pc + 3) lv st) : G D cA h0 p l e R s m args below meth c nL Q cells slots hp pc lv (.int x :: st) := fun H locs ls a1 a2 a3 => lv_if_ne K.1 K.2.1 d ht (fun q => kt (by rw [if_neg q] at h; exact h) q H locs ls a1 a2 a3) (fun q => kf (by rw [if_pos q] at h; exact h) q H locs ls a1 a2 a3)
theorem r_icmp_ne {α : Type} {res : (α ⊕ String) × hpT} {Ft Ff : Rs α} {off : Int} {tgt : Nat} (K : Cx strs D cA h0 p l s m args meth c cc own nL) {x y : Int32} (d : decode cc pc = .ok (.if_icmp .ne off, 3)) (ht : (pc : Int) + off = (tgt : Int)) (h : (if x = y then Ff else Ft) = some res) (kt : Ft = some res → ¬ (x = y) → G D cA h0 p l e R s m args below meth c nL Q cells slots hp tgt lv st) (kf : Ff = some res → x = y → G D cA h0 p l e R s m args below meth c nL Q cells slots hp (pc + 3) lv st) : G D cA h0 p l e R s m args below meth c nL Q cells slots hp pc lv (.int y :: .int x :: st) := fun H locs ls a1 a2 a3 => lv_icmp_ne K.1 K.2.1 d ht (fun q => kt (by rw [if_neg q] at h; exact h) q H locs ls a1 a2 a3) (fun q => kf (by rw [if_pos q] at h; exact h) q H locs ls a1 a2 a3)
theorem r_if_lt {α : Type} {res : (α ⊕ String) × hpT} {Ft Ff : Rs α} {off : Int} {tgt : Nat} (K : Cx strs D cA h0 p l s m args meth c cc own nL) {x : Int32} (d : decode cc pc = .ok (.ifCond .lt off, 3)) (ht : (pc : Int) + off = (tgt : Int)) (h : (if x < 0 then Ft else Ff) = some res) (kt : Ft = some res → x < 0 → G D cA h0 p l e R s m args below meth c nL Q cells slots hp tgt lv st) (kf : Ff = some res → ¬ (x < 0) → G D cA h0 p l e R s m args below meth c nL Q cells slots hp (pc + 3) lv st) : G D cA h0 p l e R s m args below meth c nL Q cells slots hp pc lv (.int x :: st) := fun H locs ls a1 a2 a3 => lv_if_lt K.1 K.2.1 d ht (fun q => kt (by rw [if_pos q] at h; exact h) q H locs ls a1 a2 a3) (fun q => kf (by rw [if_neg q] at h; exact h) q H locs ls a1 a2 a3)
theorem r_icmp_lt {α : Type} {res : (α ⊕ String) × hpT} {Ft Ff : Rs α} {off : Int} {tgt : Nat} (K : Cx strs D cA h0 p l s m args meth c cc own nL) {x y : Int32} (d : decode cc pc = .ok (.if_icmp .lt off, 3)) (ht : (pc : Int) + off = (tgt : Int)) (h : (if x < y then Ft else Ff) = some res) (kt : Ft = some res → x < y → G D cA h0 p l e R s m args below meth c nL Q cells slots hp tgt lv st) (kf : Ff = some res → ¬ (x < y) → G D cA h0 p l e R s m args below meth c nL Q cells slots hp (pc + 3) lv st) : G D cA h0 p l e R s m args below meth c nL Q cells slots hp pc lv (.int y :: .int x :: st) := fun H locs ls a1 a2 a3 => lv_icmp_lt K.1 K.2.1 d ht (fun q => kt (by rw [if_pos q] at h; exact h) q H locs ls a1 a2 a3) (fun q => kf (by rw [if_neg q] at h; exact h) q H locs ls a1 a2 a3)
theorem r_if_ge {α : Type} {res : (α ⊕ String) × hpT} {Ft Ff : Rs α} {off : Int} {tgt : Nat} (K : Cx strs D cA h0 p l s m args meth c cc own nL) {x : Int32} (d : decode cc pc = .ok (.ifCond .ge off, 3)) (ht : (pc : Int) + off = (tgt : Int)) (h : (if 0 ≤ x then Ft else Ff) = some res) (kt : Ft = some res → 0 ≤ x → G D cA h0 p l e R s m args below meth c nL Q cells slots hp tgt lv st) (kf : Ff = some res → ¬ (0 ≤ x) → G D cA h0 p l e R s m args below meth c nL Q cells slots hp (pc + 3) lv st) : G D cA h0 p l e R s m args below meth c nL Q cells slots hp pc lv (.int x :: st) := fun H locs ls a1 a2 a3 => lv_if_ge K.1 K.2.1 d ht (fun q => kt (by rw [if_pos q] at h; exact h) q H locs ls a1 a2 a3) (fun q => kf (by rw [if_neg q] at h; exact h) q H locs ls a1 a2 a3)
theorem r_icmp_ge {α : Type} {res : (α ⊕ String) × hpT} {Ft Ff : Rs α} {off : Int} {tgt : Nat} (K : Cx strs D cA h0 p l s m args meth c cc own nL) {x y : Int32} (d : decode cc pc = .ok (.if_icmp .ge off, 3)) (ht : (pc : Int) + off = (tgt : Int)) (h : (if y ≤ x then Ft else Ff) = some res) (kt : Ft = some res → y ≤ x → G D cA h0 p l e R s m args below meth c nL Q cells slots hp tgt lv st) (kf : Ff = some res → ¬ (y ≤ x) → G D cA h0 p l e R s m args below meth c nL Q cells slots hp (pc + 3) lv st) : G D cA h0 p l e R s m args below meth c nL Q cells slots hp pc lv (.int y :: .int x :: st) := fun H locs ls a1 a2 a3 => lv_icmp_ge K.1 K.2.1 d ht (fun q => kt (by rw [if_pos q] at h; exact h) q H locs ls a1 a2 a3) (fun q => kf (by rw [if_neg q] at h; exact h) q H locs ls a1 a2 a3)
theorem r_if_gt {α : Type} {res : (α ⊕ String) × hpT} {Ft Ff : Rs α} {off : Int} {tgt : Nat} (K : Cx strs D cA h0 p l s m args meth c cc own nL) {x : Int32} (d : decode cc pc = .ok (.ifCond .gt off, 3)) (ht : (pc : Int) + off = (tgt : Int)) (h : (if 0 < x then Ft else Ff) = some res) (kt : Ft = some res → 0 < x → G D cA h0 p l e R s m args below meth c nL Q cells slots hp tgt lv st) (kf : Ff = some res → ¬ (0 < x) → G D cA h0 p l e R s m args below meth c nL Q cells slots hp (pc + 3) lv st) : G D cA h0 p l e R s m args below meth c nL Q cells slots hp pc lv (.int x :: st) := fun H locs ls a1 a2 a3 => lv_if_gt K.1 K.2.1 d ht (fun q => kt (by rw [if_pos q] at h; exact h) q H locs ls a1 a2 a3) (fun q => kf (by rw [if_neg q] at h; exact h) q H locs ls a1 a2 a3)
theorem r_icmp_gt {α : Type} {res : (α ⊕ String) × hpT} {Ft Ff : Rs α} {off : Int} {tgt : Nat} (K : Cx strs D cA h0 p l s m args meth c cc own nL) {x y : Int32} (d : decode cc pc = .ok (.if_icmp .gt off, 3)) (ht : (pc : Int) + off = (tgt : Int)) (h : (if y < x then Ft else Ff) = some res) (kt : Ft = some res → y < x → G D cA h0 p l e R s m args below meth c nL Q cells slots hp tgt lv st) (kf : Ff = some res → ¬ (y < x) → G D cA h0 p l e R s m args below meth c nL Q cells slots hp (pc + 3) lv st) : G D cA h0 p l e R s m args below meth c nL Q cells slots hp pc lv (.int y :: .int x :: st) := fun H locs ls a1 a2 a3 => lv_icmp_gt K.1 K.2.1 d ht (fun q => kt (by rw [if_pos q] at h; exact h) q H locs ls a1 a2 a3) (fun q => kf (by rw [if_neg q] at h; exact h) q H locs ls a1 a2 a3)
theorem r_if_le {α : Type} {res : (α ⊕ String) × hpT} {Ft Ff : Rs α} {off : Int} {tgt : Nat} (K : Cx strs D cA h0 p l s m args meth c cc own nL) {x : Int32} (d : decode cc pc = .ok (.ifCond .le off, 3)) (ht : (pc : Int) + off = (tgt : Int)) (h : (if x ≤ 0 then Ft else Ff) = some res) (kt : Ft = some res → x ≤ 0 → G D cA h0 p l e R s m args below meth c nL Q cells slots hp tgt lv st) (kf : Ff = some res → ¬ (x ≤ 0) → G D cA h0 p l e R s m args below meth c nL Q cells slots hp (pc + 3) lv st) : G D cA h0 p l e R s m args below meth c nL Q cells slots hp pc lv (.int x :: st) := fun H locs ls a1 a2 a3 => lv_if_le K.1 K.2.1 d ht (fun q => kt (by rw [if_pos q] at h; exact h) q H locs ls a1 a2 a3) (fun q => kf (by rw [if_neg q] at h; exact h) q H locs ls a1 a2 a3)
theorem r_icmp_le {α : Type} {res : (α ⊕ String) × hpT} {Ft Ff : Rs α} {off : Int} {tgt : Nat} (K : Cx strs D cA h0 p l s m args meth c cc own nL) {x y : Int32} (d : decode cc pc = .ok (.if_icmp .le off, 3)) (ht : (pc : Int) + off = (tgt : Int)) (h : (if x ≤ y then Ft else Ff) = some res) (kt : Ft = some res → x ≤ y → G D cA h0 p l e R s m args below meth c nL Q cells slots hp tgt lv st) (kf : Ff = some res → ¬ (x ≤ y) → G D cA h0 p l e R s m args below meth c nL Q cells slots hp (pc + 3) lv st) : G D cA h0 p l e R s m args below meth c nL Q cells slots hp pc lv (.int y :: .int x :: st) := fun H locs ls a1 a2 a3 => lv_icmp_le K.1 K.2.1 d ht (fun q => kt (by rw [if_pos q] at h; exact h) q H locs ls a1 a2 a3) (fun q => kf (by rw [if_neg q] at h; exact h) q H locs ls a1 a2 a3)
theorem r_ifnull {α : Type} {res : (α ⊕ String) × hpT} {A : Rs α} {B : Nat → Rs α} {off : Int} {tgt : Nat} {r : Option Nat} (K : Cx strs D cA h0 p l s m args meth c cc own nL) (d : decode cc pc = .ok (.ifnull off, 3)) (ht : (pc : Int) + off = (tgt : Int)) (h : nlc r A B = some res) (kt : r = none → A = some res → G D cA h0 p l e R s m args below meth c nL Q cells slots hp tgt lv st) (kf : ∀ a, r = some a → B a = some res → G D cA h0 p l e R s m args below meth c nL Q cells slots hp (pc + 3) lv st) : G D cA h0 p l e R s m args below meth c nL Q cells slots hp pc lv (va_rf r :: st) := by
  cases r with
  | none => exact r_ofW K (g2 := (_, _)) (fun _ _ _ _ w => lv_ifnullN K.1 K.2.1 d ht w) (kt rfl h)
  | some a => exact r_ofW K (g2 := (_, _)) (fun _ _ _ _ w => lv_ifnull K.1 K.2.1 d w) (kf a rfl h)
theorem r_ifnonnull {α : Type} {res : (α ⊕ String) × hpT} {A : Rs α} {B : Nat → Rs α} {off : Int} {tgt : Nat} {r : Option Nat} (K : Cx strs D cA h0 p l s m args meth c cc own nL) (d : decode cc pc = .ok (.ifnonnull off, 3)) (ht : (pc : Int) + off = (tgt : Int)) (h : nlc r A B = some res) (kt : r = none → A = some res → G D cA h0 p l e R s m args below meth c nL Q cells slots hp (pc + 3) lv st) (kf : ∀ a, r = some a → B a = some res → G D cA h0 p l e R s m args below meth c nL Q cells slots hp tgt lv st) : G D cA h0 p l e R s m args below meth c nL Q cells slots hp pc lv (va_rf r :: st) := by
  cases r with
  | none => exact r_ofW K (g2 := (_, _)) (fun _ _ _ _ w => lv_ifnonnullN K.1 K.2.1 d w) (kt rfl h)
  | some a => exact r_ofW K (g2 := (_, _)) (fun _ _ _ _ w => lv_ifnonnull K.1 K.2.1 d ht w) (kf a rfl h)
end GG
end
section
/-! rows of the heap -/
/-- a place of the constant pool of own names the field k of the class of kind ci, as a link of its own or of its nest -/
def FLK (own : String) (ix ci k : Nat) : Prop := ∃ (C : String) (T : u_T) (N : Nat) (ty : Nat → FieldType), vwCl[ci]? = some (C, T, N) ∧ k < N ∧ (∀ w ∈ u_ws C T N, w ∈ gdL) ∧ (∀ k, k < N → parseFieldDescriptor (T k).2.2.1 = some (ty k)) ∧ (∀ a, a < N → ∀ b, b < N → a ≠ b → (T a).2.1 ≠ (T b).2.1) ∧ (T k).1 = C ∧ (Cond.fieldLink own ix C (T k).2.1 (T k).2.2.1 ∈ gdL ∨ ∃ host, Cond.fieldLinkNest own ix C (T k).2.1 (T k).2.2.1 host ∈ ngL)
/-- .. and it isn't final; its type -/
def FLN (ci k : Nat) (ty : FieldType) : Prop := ∀ (C : String) (T : u_T) (N : Nat), vwCl[ci]? = some (C, T, N) → (T k).2.2.2 = false ∧ parseFieldDescriptor (T k).2.2.1 = some ty
/-- .. and it is final, and of the class own -/
def FLF (own : String) (ci k : Nat) (ty : FieldType) : Prop := ∀ (C : String) (T : u_T) (N : Nat), vwCl[ci]? = some (C, T, N) → (T k).2.2.2 = true ∧ parseFieldDescriptor (T k).2.2.1 = some ty ∧ (T k).1 = own
section GH
variable {strs : List (String × Nat × String)} {D : va_G} {cA : Nat → ClassId} {h0 : Nat} {p : Program} {l : Launch} {e : Env} {R : Room} {s : State} {m : MethodId} {args : Array Value} {below : List Frame} {meth : Method} {c : Code} {nL cells slots : Nat} {Q : State → Prop} {hp : hpT} {pc : Nat} {lv : List (Option Value)} {st : List Value} {cc : ByteArray} {own : String}
variable {α : Type} {res : (α ⊕ String) × hpT}
theorem r_getV (K : Cx strs D cA h0 p l s m args meth c cc own nL) {ix ci k a : Nat} {fs : List Value} {v : Value} (d : decode cc pc = .ok (.getfield ix, 3)) (fl : FLK own ix ci k) (ha : hp.2 a = some (.inr (ci, fs))) (hv : fs[k]? = some v) (kk : G D cA h0 p l e R s m args below meth c nL Q cells slots hp (pc + 3) lv (v :: st)) : G D cA h0 p l e R s m args below meth c nL Q cells slots hp pc lv (va_rf (some a) :: st) := by
  intro H locs ls a1 a2 a3
  obtain ⟨C, T, N, ty, f1, f2, f3, f4, f5, f6, f7⟩ := fl
  obtain ⟨hx, hb, hml, hown, hts, hK, -⟩ := K
  rcases f7 with h | ⟨host, h⟩
  · exact va_get (D := D) (ref := C) (cl := vwCl) (tys := KT cA) hx hb hts f3 hown hK.1 (a1.obj ha) 0 rfl f1 k f2 (hts _ h) (fun x h9 => by rw [← f6]; rw [f6] at h9 ⊢; exact h9) hv d (kk H locs ls a1 a2 a3)
  · exact va_getN (D := D) (ref := C) (host := host) (cl := vwCl) (tys := KT cA) hx hb hts f3 hown hK.1 (a1.obj ha) 0 rfl f1 k f2 (va_Nw.use rfl (hK.2.1 _ h)) (fun x h9 => by rw [f6] at h9; exact h9) hv d (kk H locs ls a1 a2 a3)
theorem r_getI (K : Cx strs D cA h0 p l s m args meth c cc own nL) {ix ci k a : Nat} {F : Int32 → Rs α} (d : decode cc pc = .ok (.getfield ix, 3)) (fl : FLK own ix ci k) (h : gfI hp a ci k F = some res) (kk : ∀ x, F x = some res → G D cA h0 p l e R s m args below meth c nL Q cells slots hp (pc + 3) lv (.int x :: st)) : G D cA h0 p l e R s m args below meth c nL Q cells slots hp pc lv (va_rf (some a) :: st) := by
  obtain ⟨fs, x, h1, h2, h3⟩ := gfI_inv h
  exact r_getV K d fl h1 h2 (kk x h3)
theorem r_getR (K : Cx strs D cA h0 p l s m args meth c cc own nL) {ix ci k a : Nat} {F : Option Nat → Rs α} (d : decode cc pc = .ok (.getfield ix, 3)) (fl : FLK own ix ci k) (h : gfR hp a ci k F = some res) (kk : ∀ x, F x = some res → G D cA h0 p l e R s m args below meth c nL Q cells slots hp (pc + 3) lv (va_rf x :: st)) : G D cA h0 p l e R s m args below meth c nL Q cells slots hp pc lv (va_rf (some a) :: st) := by
  obtain ⟨fs, x, h1, h2, h3⟩ := gfR_inv h
  exact r_getV K d fl h1 h2 (kk x h3)
theorem fl_same {s : State} {C : String} {T : u_T} {k : Nat} (f6 : (T k).1 = C) : ∀ x, s.fieldFound? (T k).1 (T k).2.1 (T k).2.2.1 = some x → s.fieldFound? C (T k).2.1 (T k).2.2.1 = some x := fun x h => by rw [f6] at h; exact h
/-- a field that isn't final -/
theorem r_put (K : Cx strs D cA h0 p l s m args meth c cc own nL) {ix ci k a : Nat} {v : Value} {ty : FieldType} {F : hpT → Rs α} (d : decode cc pc = .ok (.putfield ix, 3)) (fl : FLK own ix ci k) (fn : FLN ci k ty) (hn : narrow ty v = v) (hfit : fits ty v = true) (h : pf hp a ci k v F = some res) (kk : ∀ hp1, F hp1 = some res → G D cA h0 p l e R s m args below meth c nL Q cells slots hp1 (pc + 3) lv st) : G D cA h0 p l e R s m args below meth c nL Q cells slots hp pc lv (v :: va_rf (some a) :: st) := by
  obtain ⟨fs, he, hl, h3⟩ := pf_inv h
  intro H locs ls a1 a2 a3
  obtain ⟨C, T, N, ty0, f1, hk, hin, hty, hnm, f6, f7⟩ := fl
  obtain ⟨hfin, hd⟩ := fn C T N f1
  obtain ⟨hexec, hb, hml, hown, hts, hK0, -⟩ := K
  have hK := hK0.1
  have hP := a1.obj he
  have hap := va_apart (own := own) hts hin ty0 hty hnm hK f1
  obtain ⟨r, h1, cell, q1, q2, q3, q4⟩ := hP 0 _ rfl
  have hr : r = (C, T, N) := Option.some.inj (h1.symm.trans f1)
  subst hr
  obtain ⟨hS, hfc, kC, hkC, hkind⟩ := hK.1 ci _ f1
  obtain ⟨cf, kf, fi, f, hi, hsl⟩ := hS k hk
  have hlay := hts _ (hin _ (u_in_lay hk))
  unfold u_lay at hlay
  rw [if_neg (by rw [hfin]; decide)] at hlay
  have hst := (u_facts hfc hkC (u_lays hts hin hk) hi).1
  have h6 := u_store hfc hkC hkind hlay hi hd hn hfit
  have fin : ∀ H1 : Heap, H1[a]? = some (cell.setSlot f.slot v) → H1.size = H.size → (∀ q, q ≠ a → H1[q]? = H[q]?) → W p l e R s m args below meth c H1 (locs ++ [⟨a, f.slot⟩]) cells slots Q (F0 m (pc + 3) ls st) := by
    intro H1 e1 e2 e3
    rw [hsl] at e1 ⊢
    refine kk _ h3 H1 _ ls (a1.set he e2 ⟨_, f1, t_OB.to (V := updV (vp_V fs) k v) ⟨_, e1, q2, q3, t_set q4 hap hk v⟩ (fun j _ => vp_updV_set hl v j)⟩ e3) (a2.put e2 e3 (a1.2.2 a _ he).1) a3
  rcases f7 with h | ⟨host, h⟩
  · exact W.putK hexec hb (f := f) ⟨hown, hts _ h, ⟨_, _, _, fl_same f6 _ hi⟩, hst⟩ (by rw [q2]; exact h6) q1 q3 (by rw [hsl]; exact k2_hasslot (q4 k hk)) rfl rfl d fin
  · exact va_WputK hexec hb (f := f) hown (va_Nw.use rfl (hK0.2.1 _ h)) (fl_same f6 _ hi) hst (by rw [q2]; exact h6) q1 q3 (by rw [hsl]; exact k2_hasslot (q4 k hk)) rfl rfl d fin
/-- a final field, in the class's constructor -/
theorem r_putF (K : Cx strs D cA h0 p l s m args meth c cc own nL) (hname : meth.name = "<init>") {ix ci k a : Nat} {v : Value} {ty : FieldType} {F : hpT → Rs α} (d : decode cc pc = .ok (.putfield ix, 3)) (fl : FLK own ix ci k) (fn : FLF own ci k ty) (hn : narrow ty v = v) (hfit : fits ty v = true) (h : pf hp a ci k v F = some res) (kk : ∀ hp1, F hp1 = some res → G D cA h0 p l e R s m args below meth c nL Q cells slots hp1 (pc + 3) lv st) : G D cA h0 p l e R s m args below meth c nL Q cells slots hp pc lv (v :: va_rf (some a) :: st) := by
  obtain ⟨fs, he, hl, h3⟩ := pf_inv h
  intro H locs ls a1 a2 a3
  obtain ⟨C, T, N, ty0, f1, hk, hin, hty, hnm, f6, f7⟩ := fl
  obtain ⟨hfin, hd, hdecl⟩ := fn C T N f1
  obtain ⟨hexec, hb, hml, hown, hts, hK0, -⟩ := K
  have hK := hK0.1
  have hP := a1.obj he
  have hap := va_apart (own := own) hts hin ty0 hty hnm hK f1
  obtain ⟨r, h1, cell, q1, q2, q3, q4⟩ := hP 0 _ rfl
  have hr : r = (C, T, N) := Option.some.inj (h1.symm.trans f1)
  subst hr
  obtain ⟨hS, hfc, kC, hkC, hkind⟩ := hK.1 ci _ f1
  obtain ⟨cf, kf, fi, f, hi, hsl⟩ := hS k hk
  have hlay := hts _ (hin _ (u_in_lay hk))
  unfold u_lay at hlay
  rw [if_pos hfin] at hlay
  have hst := (u_facts hfc hkC (u_lays hts hin hk) hi).1
  have hcf : m.cls = cf := by
    obtain ⟨_, _, c', _, _, _, -, -, hf', -, -, -, hown2, -⟩ := Cond.laysFinal_spec hlay
    have e1 : c' = cf := by have := hi.symm.trans hf'; simp at this; exact this.1.symm
    rw [hdecl] at hown2
    rw [← e1]; exact Option.some.inj (hown.symm.trans hown2)
  have h6 := u_fits hfc hkC hkind (Or.inr hlay) hi hd hn hfit
  have fin : ∀ H1 : Heap, H1[a]? = some (cell.setSlot f.slot v) → H1.size = H.size → (∀ q, q ≠ a → H1[q]? = H[q]?) → W p l e R s m args below meth c H1 (locs ++ [⟨a, f.slot⟩]) cells slots Q (F0 m (pc + 3) ls st) := by
    intro H1 e1 e2 e3
    rw [hsl] at e1 ⊢
    refine kk _ h3 H1 _ ls (a1.set he e2 ⟨_, f1, t_OB.to (V := updV (vp_V fs) k v) ⟨_, e1, q2, q3, t_set q4 hap hk v⟩ (fun j _ => vp_updV_set hl v j)⟩ e3) (a2.put e2 e3 (a1.2.2 a _ he).1) a3
  rcases f7 with h | ⟨host, h⟩
  · exact W.putFinK hexec hb hown (hts _ h) (fl_same f6 _ hi) hst hcf hname (by rw [q2]; exact h6) q1 q3 (by rw [hsl]; exact k2_hasslot (q4 k hk)) rfl rfl d fin
  · refine va_Wputf hexec hb hown (va_Nw.use rfl (hK0.2.1 _ h)) (fl_same f6 _ hi) hst (Or.inr ⟨hcf, hname⟩) q1 (by rw [q3]; exact fun h => by cases h) (by rw [hsl]; exact k2_hasslot (q4 k hk)) h6.1 (by rw [q3, q2]; exact h6.2) rfl rfl d ?_
    have ha : a < H.size := (Array.getElem?_eq_some_iff.mp q1).1
    refine fin _ ?_ ?_ ?_
    · simp [Array.getElem?_setIfInBounds, ha]
    · simp
    · intro q hq
      simp [Array.getElem?_setIfInBounds, Ne.symm hq]
theorem KT_at (cA : Nat → ClassId) {k : Nat} {ty : FieldType} (h : akT[k]? = some ty) : (KT cA)[k]? = some (cA k, ty) := by
  match k, h with
  | 0, h => cases h; rfl
  | 1, h => cases h; rfl
  | 2, h => cases h; rfl
  | 3, h => cases h; rfl
  | 4, h => cases h; rfl
  | 5, h => cases h; rfl
  | 6, h => cases h; rfl
  | k + 7, h => simp [akT] at h
theorem r_iald (K : Cx strs D cA h0 p l s m args meth c cc own nL) {a : Nat} {i : Int32} {F : Int32 → Rs α} (d : decode cc pc = .ok (.iaload, 1)) (h : ald hp a i F = some res) (kk : ∀ x, F x = some res → G D cA h0 p l e R s m args below meth c nL Q cells slots hp (pc + 1) lv (.int x :: st)) : G D cA h0 p l e R s m args below meth c nL Q cells slots hp pc lv (.int i :: va_rf (some a) :: st) := by
  obtain ⟨n, f, h1, h2, h3⟩ := ald_inv h
  exact fun H locs ls a1 a2 a3 => va_iald K.1 K.2.1 K.2.2.2.2.2.1.1 (a1.arr h1) 0 0 rfl rfl (inb_in h2) d (kk _ h3 H locs ls a1 a2 a3)
theorem r_lald (K : Cx strs D cA h0 p l s m args meth c cc own nL) {a : Nat} {i : Int32} {F : Int64 → Rs α} (d : decode cc pc = .ok (.laload, 1)) (h : aldL hp a i F = some res) (kk : ∀ x, F x = some res → G D cA h0 p l e R s m args below meth c nL Q cells slots hp (pc + 1) lv (.long x :: st)) : G D cA h0 p l e R s m args below meth c nL Q cells slots hp pc lv (.int i :: va_rf (some a) :: st) := by
  obtain ⟨n, f, h1, h2, h3⟩ := aldL_inv h
  exact fun H locs ls a1 a2 a3 => va_lald K.1 K.2.1 K.2.2.2.2.2.1.1 (a1.arr h1) 0 1 rfl rfl (inb_in h2) d (kk _ h3 H locs ls a1 a2 a3)
theorem r_aald (K : Cx strs D cA h0 p l s m args meth c cc own nL) {k0 a : Nat} {i : Int32} {C : String} {F : Option Nat → Rs α} (d : decode cc pc = .ok (.aaload, 1)) (hk : akT[k0]? = some (.object C)) (h : aldR hp k0 a i F = some res) (kk : ∀ x, F x = some res → G D cA h0 p l e R s m args below meth c nL Q cells slots hp (pc + 1) lv (va_rf x :: st)) : G D cA h0 p l e R s m args below meth c nL Q cells slots hp pc lv (.int i :: va_rf (some a) :: st) := by
  obtain ⟨n, f, h1, h2, h3⟩ := aldR_inv h
  exact fun H locs ls a1 a2 a3 => va_aldq K.1 K.2.1 K.2.2.2.2.2.1.1 (a1.arr h1) 0 k0 rfl (KT_at cA hk) (inb_in h2) d (kk _ h3 H locs ls a1 a2 a3)
theorem r_alen (K : Cx strs D cA h0 p l s m args meth c cc own nL) {a : Nat} {F : Int32 → Rs α} (d : decode cc pc = .ok (.arraylength, 1)) (h : alen hp a F = some res) (kk : ∀ x, F x = some res → G D cA h0 p l e R s m args below meth c nL Q cells slots hp (pc + 1) lv (.int x :: st)) : G D cA h0 p l e R s m args below meth c nL Q cells slots hp pc lv (va_rf (some a) :: st) := by
  obtain ⟨k, n, x, h1, h2, h3⟩ := alen_inv h
  obtain ⟨ty, hty⟩ : ∃ ty, akT[k]? = some ty := ⟨akT[k]'(by simpa [akT] using h2), List.getElem?_eq_getElem _⟩
  exact fun H locs ls a1 a2 a3 => va_alen K.1 K.2.1 K.2.2.2.2.2.1.1 (a1.arr h1) 0 k rfl (KT_at cA hty) rfl d (kk _ h3 H locs ls a1 a2 a3)
theorem r_iast (K : Cx strs D cA h0 p l s m args meth c cc own nL) {a : Nat} {i x : Int32} {F : hpT → Rs α} (d : decode cc pc = .ok (.iastore, 1)) (h : ast hp a i x F = some res) (kk : ∀ hp1, F hp1 = some res → G D cA h0 p l e R s m args below meth c nL Q cells slots hp1 (pc + 1) lv st) : G D cA h0 p l e R s m args below meth c nL Q cells slots hp pc lv (.int x :: .int i :: va_rf (some a) :: st) := by
  obtain ⟨n, f, h1, h2, h3⟩ := ast_inv h
  intro H locs ls a1 a2 a3
  obtain ⟨hexec, hb, hml, hown, hts, hK0, -⟩ := K
  refine W.iast hexec hb (a1.arr h1 0 _ rfl) ((hK0.1.2 0 _ (KT_at cA rfl)).1 n (fun j => .int (f j))) (fun q => by cases q) (by show ¬ (i < 0 ∨ (arrV _ _ _).slots.size ≤ _); rw [arrV_size]; exact inb_in h2) rfl rfl d fun H1 e z oq => ?_
  refine kk _ h3 H1 _ ls (a1.set h1 z ?_ oq) (a2.put z oq (a1.2.2 a _ h1).1) a3
  show H1[a]? = some (vp_cell _ _)
  rw [e]
  rw [vp_cell_i, vp_cell_i, arrV_store]
  congr 2
  funext q
  by_cases hq : q = i.toNatClampNeg
  · subst hq
    simp [updV, upd]
  · simp [updV, upd, hq]
theorem r_last (K : Cx strs D cA h0 p l s m args meth c cc own nL) {a : Nat} {i : Int32} {x : Int64} {F : hpT → Rs α} (d : decode cc pc = .ok (.lastore, 1)) (h : astL hp a i x F = some res) (kk : ∀ hp1, F hp1 = some res → G D cA h0 p l e R s m args below meth c nL Q cells slots hp1 (pc + 1) lv st) : G D cA h0 p l e R s m args below meth c nL Q cells slots hp pc lv (.long x :: .int i :: va_rf (some a) :: st) := by
  obtain ⟨n, f, h1, h2, h3⟩ := astL_inv h
  intro H locs ls a1 a2 a3
  obtain ⟨hexec, hb, hml, hown, hts, hK0, -⟩ := K
  refine W.last hexec hb (a1.arr h1 0 _ rfl) ((hK0.1.2 1 _ (KT_at cA rfl)).1 n (fun j => .long (f j))) (fun q => by cases q) (by show ¬ (i < 0 ∨ (arrV _ _ _).slots.size ≤ _); rw [arrV_size]; exact inb_in h2) rfl rfl d fun H1 e z oq => ?_
  refine kk _ h3 H1 _ ls (a1.set h1 z ?_ oq) (a2.put z oq (a1.2.2 a _ h1).1) a3
  show H1[a]? = some (vp_cell _ _)
  rw [e]
  rw [vp_cell_l, vp_cell_l, arrV_store]
  congr 2
  funext q
  by_cases hq : q = i.toNatClampNeg
  · subst hq
    simp [updV, vp_updL]
  · simp [updV, vp_updL, hq]
theorem r_aast (K : Cx strs D cA h0 p l s m args meth c cc own nL) {k0 ci a v : Nat} {i : Int32} {q0 : vw_C} {F : hpT → Rs α} (d : decode cc pc = .ok (.aastore, 1)) (hk : akT[k0]? = some (.object q0.1)) (hc : vwCl[ci]? = some q0) (h : astR hp k0 ci a i v F = some res) (kk : ∀ hp1, F hp1 = some res → G D cA h0 p l e R s m args below meth c nL Q cells slots hp1 (pc + 1) lv st) : G D cA h0 p l e R s m args below meth c nL Q cells slots hp pc lv (va_rf (some v) :: .int i :: va_rf (some a) :: st) := by
  obtain ⟨n, f, fs, h1, h2, hv, h3⟩ := astR_inv h
  intro H locs ls a1 a2 a3
  obtain ⟨hexec, hb, hml, hown, hts, hK0, -⟩ := K
  have hK := hK0.1
  have hin := inb_in h2
  have hlt : i.toNatClampNeg < n := Nat.not_le.mp fun q => hin (Or.inr q)
  have h0' : ¬ i < 0 := fun q => hin (Or.inl q)
  obtain ⟨r', hr', cellV, g1, g2, g3, -⟩ := a1.obj hv 0 _ rfl
  have hcls := (hK.1 ci q0 hc).2
  obtain ⟨kA, comp, k1, k2, k3, -⟩ := (hK.2 k0 _ (KT_at cA hk)).2
  have hcomp : comp = D.1 ci := Option.some.inj (k3.symm.trans hcls.1)
  subst hcomp
  obtain ⟨kC, hkC, -⟩ := hcls.2
  refine W.aast hexec hb (a1.arr h1 0 _ rfl) (fun q h => by cases h) (fun h => by cases h) k1 k2 rfl hkC ⟨h0', by show _ < (arrV _ _ _).slots.size; rw [arrV_size]; exact hlt⟩ g1 (fun q h => by rw [g3] at h; cases h) (by rw [g2]; exact hkC) (by rw [g2]; exact va_assign hcls) rfl rfl d fun H1 e z oq => ?_
  refine kk _ h3 H1 _ ls (a1.set h1 z ?_ oq) (a2.put z oq (a1.2.2 a _ h1).1) a3
  show H1[a]? = some (vp_cell _ _)
  rw [e]
  rw [vp_cell_q, vp_cell_q, arrV_store]
  congr 2
  funext q
  by_cases hq : q = i.toNatClampNeg
  · subst hq
    simp [updV, va_up, va_rf]
  · simp [updV, va_up, hq]
theorem r_newI (K : Cx strs D cA h0 p l s m args meth c cc own nL) {n : Int32} {N : Nat} {F : Nat → hpT → Rs α} (d : decode cc pc = .ok (.newarray .int, 2)) (hw : Cond.arrayClass .int ∈ gdL) (hn : ¬ n < 0) (hN : n.toNatClampNeg = N) (hbytes : N * 4 ≤ 536870912) (hcells : cells + 1 ≤ R.cells) (hslots : slots + N ≤ R.slots) (h : newI hp N F = some res) (kk : ∀ q hp1, F q hp1 = some res → G D cA h0 p l e R s m args below meth c nL Q (cells + 1) (slots + N) hp1 (pc + 2) lv (va_rf (some q) :: st)) : G D cA h0 p l e R s m args below meth c nL Q cells slots hp pc lv (.int n :: st) := by
  intro H locs ls a1 a2 a3
  obtain ⟨hexec, hb, hml, hown, hts, hK0, -⟩ := K
  refine va_newaK (atype := .int) hexec hb (hts _ hw) (g := F0 m pc ls (.int n :: st)) rfl d rfl hn hN hbytes hcells hslots rfl fun H1 cA1 e1 z1 o1 hAr hNm => ?_
  have hc1 : cA1 = cA 0 := Option.some.inj (hNm.symm.trans (hK0.1.2 0 _ (KT_at cA rfl)).2)
  subst hc1
  have := kk _ _ h H1 locs ls (a1.push z1 e1 o1) ⟨Nat.le_trans a2.1 (by omega), fun x q1 q2 => (o1 x (Nat.lt_of_lt_of_le q1 a2.1)).trans (a2.2.1 x q1 q2), a2.2.2⟩ a3
  rw [← a1.1] at this
  exact this
theorem r_newL (K : Cx strs D cA h0 p l s m args meth c cc own nL) {n : Int32} {N : Nat} {F : Nat → hpT → Rs α} (d : decode cc pc = .ok (.newarray .long, 2)) (hw : Cond.arrayClass .long ∈ gdL) (hn : ¬ n < 0) (hN : n.toNatClampNeg = N) (hbytes : N * 8 ≤ 536870912) (hcells : cells + 1 ≤ R.cells) (hslots : slots + N ≤ R.slots) (h : newL hp N F = some res) (kk : ∀ q hp1, F q hp1 = some res → G D cA h0 p l e R s m args below meth c nL Q (cells + 1) (slots + N) hp1 (pc + 2) lv (va_rf (some q) :: st)) : G D cA h0 p l e R s m args below meth c nL Q cells slots hp pc lv (.int n :: st) := by
  intro H locs ls a1 a2 a3
  obtain ⟨hexec, hb, hml, hown, hts, hK0, -⟩ := K
  refine va_newaK (atype := .long) hexec hb (hts _ hw) (g := F0 m pc ls (.int n :: st)) rfl d rfl hn hN hbytes hcells hslots rfl fun H1 cA1 e1 z1 o1 hAr hNm => ?_
  have hc1 : cA1 = cA 1 := Option.some.inj (hNm.symm.trans (hK0.1.2 1 _ (KT_at cA rfl)).2)
  subst hc1
  have := kk _ _ h H1 locs ls (a1.push z1 e1 o1) ⟨Nat.le_trans a2.1 (by omega), fun x q1 q2 => (o1 x (Nat.lt_of_lt_of_le q1 a2.1)).trans (a2.2.1 x q1 q2), a2.2.2⟩ a3
  rw [← a1.1] at this
  exact this
theorem r_newR (K : Cx strs D cA h0 p l s m args meth c cc own nL) {ix k0 : Nat} {C : String} {n : Int32} {N : Nat} {F : Nat → hpT → Rs α} (d : decode cc pc = .ok (.anewarray ix, 3)) (hk : akT[k0]? = some (.object C)) (hC : C ∈ aoL) (hw : Cond.classLink own ix C ∈ gdL) (hn : ¬ n < 0) (hN : n.toNatClampNeg = N) (hbytes : N * 4 ≤ 536870912) (hcells : cells + 1 ≤ R.cells) (hslots : slots + N ≤ R.slots) (h : newR hp k0 N F = some res) (kk : ∀ q hp1, F q hp1 = some res → G D cA h0 p l e R s m args below meth c nL Q (cells + 1) (slots + N) hp1 (pc + 3) lv (va_rf (some q) :: st)) : G D cA h0 p l e R s m args below meth c nL Q cells slots hp pc lv (.int n :: st) := by
  intro H locs ls a1 a2 a3
  obtain ⟨hexec, hb, hml, hown, hts, hK0, -⟩ := K
  subst hN
  refine W.anew hexec hb hown (hts _ hw) (va_AO.use (hK0.2.2.1 C hC)) rfl d rfl hn hbytes hcells hslots fun cA1 kA comp f1 f2 f3 f4 => ?_
  obtain ⟨kA', comp', g1, g2, g3, g4⟩ := (hK0.1.2 k0 _ (KT_at cA hk)).2
  have hc1 : cA1 = cA k0 := Option.some.inj (f1.symm.trans g4)
  subst hc1
  generalize hH1 : H.push ({ cls := cA k0, slots := Array.replicate n.toNatClampNeg .null, vm := .none } : Cell) = H1
  have z1 : H1.size = H.size + 1 := by rw [← hH1, Array.size_push]
  have e1 : H1[H.size]? = some (arrV (cA k0) n.toNatClampNeg (fun _ => .null)) := by rw [← hH1, Array.getElem?_push_size, ← arrV_new]
  have o1 : ∀ q : Nat, q < H.size → H1[q]? = H[q]? := fun q hq => by rw [← hH1, Array.getElem?_push, if_neg (Nat.ne_of_lt hq)]
  have := kk _ _ h H1 locs ls (a1.push z1 e1 o1) ⟨Nat.le_trans a2.1 (by omega), fun x q1 q2 => (o1 x (Nat.lt_of_lt_of_le q1 a2.1)).trans (a2.2.1 x q1 q2), a2.2.2⟩ a3
  rw [← a1.1] at this
  exact this
/-- the class of kind ci: its words, and the fields of a new object of it -/
def NWO (ci : Nat) (C : String) (N : Nat) (fs : List Value) : Prop := ∃ (T : u_T) (ty : Nat → FieldType), vwCl[ci]? = some (C, T, N) ∧ (∀ w ∈ u_ws C T N, w ∈ gdL) ∧ (∀ k, k < N → parseFieldDescriptor (T k).2.2.1 = some (ty k)) ∧ (∀ j, j < N → defaultValue (ty j) = vp_V fs j) ∧ Cond.instantiable C N ∈ gdL ∧ Cond.initialized C ∈ gdL
theorem r_new (K : Cx strs D cA h0 p l s m args meth c cc own nL) {ix ci N : Nat} {C : String} {fs : List Value} {F : Nat → hpT → Rs α} (d : decode cc pc = .ok (.new ix, 3)) (hw : Cond.classLink own ix C ∈ gdL) (hO : NWO ci C N fs) (hcells : cells + 1 ≤ R.cells) (hslots : slots + N ≤ R.slots) (h : newO hp ci fs F = some res) (kk : ∀ q hp1, F q hp1 = some res → G D cA h0 p l e R s m args below meth c nL Q (cells + 1) (slots + N) hp1 (pc + 3) lv (va_rf (some q) :: st)) : G D cA h0 p l e R s m args below meth c nL Q cells slots hp pc lv st := by
  intro H locs ls a1 a2 a3
  obtain ⟨hexec, hb, hml, hown, hts, hK0, -⟩ := K
  obtain ⟨T, ty, hc, hin, hty, hfs, hi1, hi2⟩ := hO
  have hKn := hK0.1.1 ci _ hc
  refine W.newcK hexec hb hown (hts _ hw) (hts _ hi1) (hts _ hi2) rfl d hcells hslots hKn.2.1 rfl fun H1 kC hkC e1 z1 o1 => ?_
  have := kk _ _ h H1 locs ls (a1.push z1 ⟨_, hc, (u_born ty hts hin hKn hkC e1 hty).to hfs⟩ o1) ⟨Nat.le_trans a2.1 (by omega), fun x q1 q2 => (o1 x (Nat.lt_of_lt_of_le q1 a2.1)).trans (a2.2.1 x q1 q2), a2.2.2⟩ a3
  rw [← a1.1] at this
  exact this
end GH
end
section
/-! method entries, ends, throws, calls -/
theorem Kx.calling {strs : List (String × Nat × String)} {D : va_G} {cA : Nat → ClassId} {h0 : Nat} {hp : hpT} {U : State} (g : JFrame) (mk : MethodId) (a : Array Value) (h : Pre strs D cA h0 hp U) : Pre strs D cA h0 hp (U.calling g mk a) := ⟨h.1, h.2.to (U := U.calling g mk a) (State.WarmedH.refl U) (Nat.le_refl _) (fun _ _ _ => rfl)⟩
theorem pre_blind {strs : List (String × Nat × String)} {D : va_G} {cA : Nat → ClassId} {h0 : Nat} {hp : hpT} {av : List Value} : FrameBlind (va_Pc av (Pre strs D cA h0 hp)) := fun a U g mk q => ⟨q.1, Kx.calling g mk a q.2⟩
theorem lv1_args : ∀ (vs : List Value) (i : Nat), (∀ v ∈ vs, v.category = 1) → ∀ (j : Nat) (v : Value), vs[j]? = some v → (i + j, v) ∈ lv_args i vs
  | [], i, hc, j, v, h => by simp at h
  | w :: vs, i, hc, j, v, h => by
    unfold lv_args
    have h1 : ¬ w.category = 2 := by rw [hc w List.mem_cons_self]; decide
    rw [if_neg h1]
    cases j with
    | zero =>
      simp only [List.getElem?_cons_zero, Option.some.injEq] at h
      subst h
      exact List.mem_cons_self
    | succ j =>
      have := lv1_args vs (i + 1) (fun v hv => hc v (List.mem_cons_of_mem _ hv)) j v (by simpa using h)
      rw [show i + (j + 1) = i + 1 + j by omega]
      exact List.mem_cons_of_mem _ this
theorem lvP_entry (vs : List Value) {n : Nat} (hc : ∀ v ∈ vs, v.category = 1) (h : (lg_sl vs).length ≤ n) : lvP ((lg_sl vs ++ List.replicate (n - (lg_sl vs).length) Slot.unset).toArray) n (vs.map some ++ List.replicate (n - vs.length) none) := by
  obtain ⟨h1, h2, h3⟩ := lv_entry vs h
  refine ⟨h1, h2, fun i v hi => ?_⟩
  by_cases hl : i < vs.length
  · rw [List.getElem?_append_left (by simpa using hl), List.getElem?_map] at hi
    cases hv : vs[i]? with
    | none => rw [hv] at hi; cases hi
    | some w =>
      rw [hv] at hi
      have e9 : w = v := by simpa using hi
      subst e9
      have := lv1_args vs 0 hc i _ hv
      rw [Nat.zero_add] at this
      exact ⟨hc _ (List.mem_of_getElem? hv), h3 (i, _) this⟩
  · rw [List.getElem?_append_right (by simpa using Nat.le_of_not_lt hl), List.getElem?_replicate] at hi
    split at hi <;> cases hi
def wsm (y : MethodName) (cc : ByteArray) (n : Nat) (rt : Option FieldType) : List Cond := Cond.code y cc n rt :: gdL
/-- a method from its entry -/
theorem g_entry {strs : List (String × Nat × String)} {D : va_G} {cA : Nat → ClassId} {h0 : Nat} {l : Launch} {y : MethodName} {cc : ByteArray} {maxL : Nat} {rt : Option FieldType} {rm : Room} {av : List Value} {hp : hpT} {Qc : Array Value → State → Outcome → State → Prop} {XC : String → State → State → Prop} {mc ms : Nat} {lv : List (Option Value)}
    (hy : plainName y.cls = true) (hl : l.stackTraces = false) (hc : ∀ v ∈ av, v.category = 1) (hsz : (lg_sl av).length ≤ maxL) (hlv : av.map some ++ List.replicate (maxL - av.length) none = lv)
    (body : ∀ p e s m args below meth c, Cx strs D cA h0 p l s m args meth c cc y.cls maxL → meth.sig.returnType = rt → (∀ x ∈ c.exceptionTable.toList, False) → meth.name = y.name → G D cA h0 p l e rm s m args below meth c maxL (vx_MQ below Qc XC args s mc ms (Af h0)) 0 0 hp 0 lv []) :
    vx_Met l y (wsm y cc maxL rt) rm (va_Pc av (Pre strs D cA h0 hp)) Qc XC mc ms (Af h0) := by
  refine vx_ofW (cc := cc) (maxL := maxL) (ret := rt) hy rfl ?_
  intro p e s m args below meth c s₁ B hml ht hv
  obtain ⟨rfl, hW, hK⟩ := hv
  have hts : ∀ w ∈ wsm y cc maxL rt, w.before av.toArray s = true := atoms_spec (ws := wsm y cc maxL rt) B.pre
  have hown : s.vm.findClass y.cls = some m.cls := findClass_of_methodNamed B.named
  have hin : meth.name = y.name := (name_of_methodNamed B.named B.method).1
  have hlp := lvP_entry av hc hsz
  rw [hlv] at hlp
  rw [lg_entry_eq]
  exact body p e s m av.toArray below meth c ⟨B.exec, B.bytes, hml, hown, fun w hw => hts w (List.mem_cons_of_mem _ hw), hK, hl, B.notSynchronized⟩ B.returns ht hin s.heap [] _ hW va_S.rf hlp
section GC
variable {strs : List (String × Nat × String)} {D : va_G} {cA : Nat → ClassId} {h0 : Nat} {p : Program} {l : Launch} {e : Env} {R : Room} {s : State} {m : MethodId} {args : Array Value} {below : List Frame} {meth : Method} {c : Code} {nL cells slots : Nat} {Q : State → Prop} {hp : hpT} {pc : Nat} {lv : List (Option Value)} {st : List Value} {cc : ByteArray} {own : String} {mc ms : Nat}
theorem r_ireturn (K : Cx strs D cA h0 p l s m args meth c cc own nL) (hr : meth.sig.returnType = some .int) {res : (Int32 ⊕ String) × hpT} {XC : String → State → State → Prop} {v : Int32} (d : decode cc pc = .ok (.ireturn, 1)) (h : rtv v hp = some res) (hc : cells ≤ mc) (hs : slots ≤ ms) : G D cA h0 p l e R s m args below meth c nL (vx_MQ below (QI D cA h0 res) XC args s mc ms (Af h0)) cells slots hp pc lv [.int v] := by
  intro H locs ls a1 a2 a3
  cases h
  exact W.widen hc hs (vx_ret (W.iret K.1 K.2.1 hr (fun t ht hW => ⟨⟨v, (), rfl, rfl, by subst ht; exact a1⟩, a2.F ht⟩) a2.2.2 d K.2.2.2.2.2.2.2))
theorem nar_bool {v : Int32} (h : v = 0 ∨ v = 1) : narrow .boolean (.int v) = .int v := by rcases h with rfl | rfl <;> rfl
theorem r_zreturn (K : Cx strs D cA h0 p l s m args meth c cc own nL) (hr : meth.sig.returnType = some .boolean) {res : (Int32 ⊕ String) × hpT} {XC : String → State → State → Prop} {v : Int32} (d : decode cc pc = .ok (.ireturn, 1)) (h : rtZ v hp = some res) (hc : cells ≤ mc) (hs : slots ≤ ms) : G D cA h0 p l e R s m args below meth c nL (vx_MQ below (QI D cA h0 res) XC args s mc ms (Af h0)) cells slots hp pc lv [.int v] := by
  intro H locs ls a1 a2 a3
  obtain ⟨hv, rfl⟩ := rtZ_inv h
  exact W.widen hc hs (vx_ret (W.zret K.1 K.2.1 hr (nar_bool hv) (fun t ht hW => ⟨⟨v, (), rfl, rfl, by subst ht; exact a1⟩, a2.F ht⟩) a2.2.2 d K.2.2.2.2.2.2.2))
theorem r_vreturn (K : Cx strs D cA h0 p l s m args meth c cc own nL) (hr : meth.sig.returnType = none) {res : (Unit ⊕ String) × hpT} {XC : String → State → State → Prop} (d : decode cc pc = .ok (.return_, 1)) (h : rtv () hp = some res) (hc : cells ≤ mc) (hs : slots ≤ ms) : G D cA h0 p l e R s m args below meth c nL (vx_MQ below (QV D cA h0 res) XC args s mc ms (Af h0)) cells slots hp pc lv [] := by
  intro H locs ls a1 a2 a3
  cases h
  exact W.widen hc hs (vx_ret (W.vret K.1 K.2.1 hr (fun t ht hW => ⟨⟨(), rfl, rfl, by subst ht; exact a1⟩, a2.F ht⟩) a2.2.2 d K.2.2.2.2.2.2.2))
theorem r_areturn (K : Cx strs D cA h0 p l s m args meth c cc own nL) {C : String} (hr : meth.sig.returnType = some (.object C)) {res : (Nat ⊕ String) × hpT} {XC : String → State → State → Prop} {v : Nat} (d : decode cc pc = .ok (.areturn, 1)) (h : rtv v hp = some res) (hc : cells ≤ mc) (hs : slots ≤ ms) : G D cA h0 p l e R s m args below meth c nL (vx_MQ below (QR D cA h0 res) XC args s mc ms (Af h0)) cells slots hp pc lv [va_rf (some v)] := by
  intro H locs ls a1 a2 a3
  cases h
  exact W.widen hc hs (vx_ret (W.aret K.1 K.2.1 hr (Or.inl ⟨C, rfl⟩) (Or.inr ⟨v, rfl⟩) (fun t ht hW => ⟨⟨some v, (), rfl, ⟨v, rfl, rfl⟩, by subst ht; exact a1⟩, a2.F ht⟩) a2.2.2 d K.2.2.2.2.2.2.2))
/-- a place where own throws a new cls(text): its words -/
def THW (own : String) (ik ic : Nat) (cls : String) (names : List String) : Prop := Bundle.fit cls = true ∧ (∀ n ∈ names, Bundle.fit n = true) ∧ Cond.classLink own ik cls ∈ gdL ∧ Cond.initialized cls ∈ gdL ∧ (∀ w ∈ vx_atS own ic cls names, w ∈ gdL ∨ w ∈ ngL) ∧ (∀ w ∈ Cond.classLink own ik cls :: Cond.initialized cls :: vx_atS own ic cls names, vx_ot w = true)
theorem wdx_of {α : Type} {res : (α ⊕ String) × hpT} {cls : String} {H : Heap} {locs : List Loc} (h : tht cls hp = some res) (a1 : Wd D cA h0 hp H) (a2 : va_S (Af h0) s.heap H locs) (t : State) (hz : H.size ≤ t.heap.size) (hq : ∀ q : Nat, q < H.size → t.heap[q]? = H[q]?) : XE D cA h0 res cls s t := by
  cases h
  exact ⟨(), trivial, ⟨rfl, a1.2.keep hz hq⟩, Nat.le_trans a2.1 hz, fun q q1 q2 => (hq q (Nat.lt_of_lt_of_le q1 a2.1)).trans (a2.2.1 q q1 q2)⟩
theorem r_throw {α : Type} {res : (α ⊕ String) × hpT} {Qc : Array Value → State → Outcome → State → Prop} (K : Cx strs D cA h0 p l s m args meth c cc own nL) (hE : ∀ x ∈ c.exceptionTable.toList, False) {cls text : String} {names : List String} {ik is ic : Nat} (d0 : decode cc pc = .ok (.new ik, 3)) (d3 : decode cc (pc + 3) = .ok (.dup, 1)) (d4 : decode cc (pc + 4) = .ok (.ldc is, 2)) (d6 : decode cc (pc + 6) = .ok (.invokespecial ic, 3)) (d9 : decode cc (pc + 9) = .ok (.athrow, 1))
    (hT : THW own ik ic cls names) (hstr : (own, is, text) ∈ strs) (h : tht cls hp = some res) (hRf : names.length + 3 < R.frames) (hRl : (st.map fun v => v.category).sum + (13 * (names.length + 1) + 43) ≤ R.locals) (hRc : cells + 1 ≤ R.cells) (hRs : slots + 6 ≤ R.slots) (hc : cells + 1 ≤ mc) (hs : slots + 6 ≤ ms) :
    G D cA h0 p l e R s m args below meth c nL (vx_MQ below Qc (XE D cA h0 res) args s mc ms (Af h0)) cells slots hp pc lv st := by
  intro H locs ls a1 a2 a3
  obtain ⟨hx, hb, hml, hown, hts, hK, hl, hlk⟩ := K
  obtain ⟨t1, t2, t3, t4, t5, t6⟩ := hT
  obtain ⟨sa, hsa⟩ := hK.2.2.2.1 _ hstr
  have hat : ∀ w ∈ vx_atS own ic cls names, w.before args s = true := fun w hw => by
    rcases t5 w hw with q | q
    · exact hts w q
    · exact va_Nw.use (ngL_tab q) (hK.2.1 w q)
  exact vx_throwS (sa := sa) (text := text) (A := Af h0) hx hb hl hown t1 t2 (hts _ t3) (hts _ t4) hsa hat t6 hK.2.2.2.2.1 hK.2.2.2.2.2.1 a2 (a3.1.trans hml.symm) d0 d3 d4 d6 d9 (fun x q => (hE x q).elim) hRf hRl hRc hRs hlk (fun t _ hz hq => wdx_of h a1 a2 t hz hq) a2.2.2 hc hs
theorem r_throwW {α : Type} {res : (α ⊕ String) × hpT} {Qc : Array Value → State → Outcome → State → Prop} (K : Cx strs D cA h0 p l s m args meth c cc own nL) (hE : ∀ x ∈ c.exceptionTable.toList, False) {cls text : String} {names : List String} {ik is ic : Nat} (d0 : decode cc pc = .ok (.new ik, 3)) (d3 : decode cc (pc + 3) = .ok (.dup, 1)) (d4 : decode cc (pc + 4) = .ok (.ldc_w is, 3)) (d7 : decode cc (pc + 7) = .ok (.invokespecial ic, 3)) (d10 : decode cc (pc + 10) = .ok (.athrow, 1))
    (hT : THW own ik ic cls names) (hstr : (own, is, text) ∈ strs) (h : tht cls hp = some res) (hRf : names.length + 3 < R.frames) (hRl : (st.map fun v => v.category).sum + (13 * (names.length + 1) + 43) ≤ R.locals) (hRc : cells + 1 ≤ R.cells) (hRs : slots + 6 ≤ R.slots) (hc : cells + 1 ≤ mc) (hs : slots + 6 ≤ ms) :
    G D cA h0 p l e R s m args below meth c nL (vx_MQ below Qc (XE D cA h0 res) args s mc ms (Af h0)) cells slots hp pc lv st := by
  intro H locs ls a1 a2 a3
  obtain ⟨hx, hb, hml, hown, hts, hK, hl, hlk⟩ := K
  obtain ⟨t1, t2, t3, t4, t5, t6⟩ := hT
  obtain ⟨sa, hsa⟩ := hK.2.2.2.1 _ hstr
  have hat : ∀ w ∈ vx_atS own ic cls names, w.before args s = true := fun w hw => by
    rcases t5 w hw with q | q
    · exact hts w q
    · exact va_Nw.use (ngL_tab q) (hK.2.1 w q)
  exact vx_throwSW (sa := sa) (text := text) (A := Af h0) hx hb hl hown t1 t2 (hts _ t3) (hts _ t4) hsa hat t6 hK.2.2.2.2.1 hK.2.2.2.2.2.1 a2 (a3.1.trans hml.symm) d0 d3 d4 d7 d10 (fun x q => (hE x q).elim) hRf hRl hRc hRs hlk (fun t _ hz hq => wdx_of h a1 a2 t hz hq) a2.2.2 hc hs
/-- Object's constructor -/
theorem r_objInit (K : Cx strs D cA h0 p l s m args meth c cc own nL) {idx a : Nat} (d : decode cc pc = .ok (.invokespecial idx, 3)) (hw : Cond.methodLink own idx objectInit ∈ gdL) (hw2 : Cond.instanceMethod objectInit ∈ gdL) (hw3 : Cond.code objectInit ⟨#[0xb1]⟩ 1 none ∈ gdL) (hf : 1 ≤ R.frames) (hl : (st.map fun v => v.category).sum + 12 ≤ R.locals) (k : G D cA h0 p l e R s m args below meth c nL Q cells slots hp (pc + 3) lv st) : G D cA h0 p l e R s m args below meth c nL Q cells slots hp pc lv (va_rf (some a) :: st) := by
  intro H locs ls a1 a2 a3
  obtain ⟨hx, hb, hml, hown, hts, hK, -⟩ := K
  refine W.objInit hx hb hown (hts _ hw) (hts _ hw2) (hts _ hw3) rfl (a3.1.trans hml.symm) rfl d hf (by show 2 * 0 + _ + 12 ≤ _; omega) ?_
  exact k H locs ls a1 a2 a3
-- ===== calls: what a place of a call needs of the words
def mcat (st : List Value) : Nat := (st.map fun v => v.category).sum
def NMH (y : MethodName) : Prop := y.cls ≠ "java/lang/invoke/MethodHandle" ∧ y.cls ≠ "java/lang/invoke/VarHandle"
/-- the callee: its code, its class -/
def CEE (y : MethodName) (cy : ByteArray) (ny : Nat) (rt : Option FieldType) (n : Nat) : Prop := Cond.code y cy ny rt ∈ gdL ∧ Cond.initialized y.cls ∈ gdL ∧ (y.cls ≠ "java/lang/invoke/MethodHandle" ∧ y.cls ≠ "java/lang/invoke/VarHandle" ∧ (parseMethodDescriptor y.desc).map (fun d => d.parameters.length) = some n)
def CST (y : MethodName) : Prop := Cond.static y ∈ gdL
def CVI (y : MethodName) : Prop := Cond.instanceMethod y ∈ gdL ∧ Cond.selects y.cls y y ∈ gdL
def CIN (y : MethodName) : Prop := Cond.instanceMethod y ∈ gdL ∧ y.name = "<init>"
/-- the place's link: of its own, or of its nest -/
def LNK (own : String) (idx : Nat) (y : MethodName) : Prop := Cond.methodLink own idx y ∈ gdL ∨ ∃ host, Cond.methodLinkNest own idx y host ∈ ngL
/-- a run of a call, at the frame's states over hp -/
def RUN (D : va_G) (cA : Nat → ClassId) (h0 : Nat) (p : Program) (l : Launch) (e : Env) (R : Room) (s : State) (m : MethodId) (args : Array Value) (below : List Frame) (meth : Method) (c : Code) (nL cells slots mc ms : Nat) (hp : hpT) (pc : Nat) (lv : List (Option Value)) (st0 st : List Value) (Qa : State → Outcome → State → Prop) (XC : String → State → State → Prop) : Prop :=
  ∀ (H : Heap) (locs : List Loc) (ls : Array Slot), Wd D cA h0 hp H → va_S (Af h0) s.heap H locs → lvP ls nL lv → vx_Run p l e R s m args below meth c H locs cells slots mc ms (F0 m pc ls st0) st Qa XC (Af h0)
variable {y : MethodName} {cy : ByteArray} {ny n idx : Nat} {rt : Option FieldType} {rm : Room} {As : List Value} {Qc : Array Value → State → Outcome → State → Prop} {XC : String → State → State → Prop}
theorem wsm_in {P : Cond → Prop} (hc : Cond.code y cy ny rt ∈ gdL) : ∀ w ∈ wsm y cy ny rt, w ∈ gdL := fun w hw => (List.mem_cons.mp hw).elim (fun e => by rw [e]; exact hc) id
theorem pre_at {H : Heap} {locs : List Loc} (K : Cx strs D cA h0 p l s m args meth c cc own nL) (a1 : Wd D cA h0 hp H) (a2 : va_S (Af h0) s.heap H locs) : ∀ U : State, U.heap = H → s.WarmedH U.vm → Pre strs D cA h0 hp U := fun U hU hW => ⟨by rw [hU]; exact a1, K.2.2.2.2.2.1.to hW (by rw [hU]; exact a2.1) (fun a q1 q2 => by rw [hU]; exact a2.2.1 a q1 q2)⟩
theorem run_S (K : Cx strs D cA h0 p l s m args meth c cc own nL) (hM : vx_Met l y (wsm y cy ny rt) rm (va_Pc As (Pre strs D cA h0 hp)) Qc XC mc ms (Af h0)) {st0 : List Value} (d : decode cc pc = .ok (.invokestatic idx, 3)) (hE : CEE y cy ny rt n) (hT : CST y) (hL : LNK own idx y) (hn : As.length = n) (hst : st0 = As.reverse ++ st) (hR : rm.frames + 1 ≤ R.frames ∧ 8 + (ny + 11) + rm.locals ≤ R.locals) (hrc : rm.cells = mc) (hrs : rm.slots = ms) (hW : mcat st ≤ 8) (hf : cells + mc ≤ R.cells ∧ slots + ms ≤ R.slots) : RUN D cA h0 p l e R s m args below meth c nL cells slots mc ms hp pc lv st0 st (Qc As.toArray) XC := by
  intro H locs ls a1 a2 a3
  obtain ⟨hx, hb, hml, hown, hts, hK, -⟩ := id K
  have hG : GoodIn gdL (wsm y cy ny rt) := gdIn (wsm_in (P := fun _ => True) hE.1)
  have hp' : PreS s H (va_Pc As (Pre strs D cA h0 hp)) As := ⟨pre_blind, fun U hU hW => ⟨rfl, pre_at K a1 a2 U hU hW⟩⟩
  rcases hL with h | ⟨host, h⟩
  · exact vx_runS (Ts := gdL) (own := own) ⟨hx, hb, hml, hown, hts⟩ hM ⟨callB_of n hts hG rfl hrc hrs (hts _ hE.2.1) (hts _ h) hE.2.2 hR, hts _ hT⟩ hp' rfl hn a3.1 hst (lv_room hW) d hf
  · exact vx_runSN (Ts := gdL) (own := own) ⟨hx, hb, hml, hown, hts⟩ hM ⟨va_cnB n hts hG rfl hrc hrs (hK.2.1 _ h) (hts _ hE.2.1) hE.2.2 hR, hts _ hT, trivial⟩ hp' rfl hn a3.1 hst (lv_room hW) d hf
theorem run_V (K : Cx strs D cA h0 p l s m args meth c cc own nL) {b ci : Nat} {q0 : vw_C} {fs : List Value} (hM : vx_Met l y (wsm y cy ny rt) rm (va_Pc (va_rf (some b) :: As) (Pre strs D cA h0 hp)) Qc XC mc ms (Af h0)) {st0 : List Value} (d : decode cc pc = .ok (.invokevirtual idx, 3)) (hE : CEE y cy ny rt n) (hT : CVI y) (hL : LNK own idx y) (hci : vwCl[ci]? = some q0) (hcy : q0.1 = y.cls) (hb9 : hp.2 b = some (.inr (ci, fs))) (hn : As.length = n) (hst : st0 = As.reverse ++ va_rf (some b) :: st) (hR : rm.frames + 1 ≤ R.frames ∧ 8 + (ny + 11) + rm.locals ≤ R.locals) (hrc : rm.cells = mc) (hrs : rm.slots = ms) (hW : mcat st ≤ 8) (hf : cells + mc ≤ R.cells ∧ slots + ms ≤ R.slots) : RUN D cA h0 p l e R s m args below meth c nL cells slots mc ms hp pc lv st0 st (Qc (va_rf (some b) :: As).toArray) XC := by
  intro H locs ls a1 a2 a3
  obtain ⟨hx, hb, hml, hown, hts, hK, -⟩ := id K
  have hG : GoodIn gdL (wsm y cy ny rt) := gdIn (wsm_in (P := fun _ => True) hE.1)
  have hrv := va_recv hK.1 (a1.obj hb9) hci (q0 := 0) rfl
  rw [hcy] at hrv
  have hp' : PreV s H y.cls b (va_Pc (va_rf (some b) :: As) (Pre strs D cA h0 hp)) As := ⟨pre_blind, hrv, fun U hU hW => ⟨rfl, pre_at K a1 a2 U hU hW⟩⟩
  rcases hL with h | ⟨host, h⟩
  · exact vx_runV (Ts := gdL) (own := own) (C := y.cls) ⟨hx, hb, hml, hown, hts⟩ hM ⟨callB_of n hts hG rfl hrc hrs (hts _ hE.2.1) (hts _ h) hE.2.2 hR, hts _ hT.1, hts _ hT.2⟩ hp' rfl hn a3.1 hst (lv_room hW) d hf
  · exact vx_runVN (Ts := gdL) (own := own) (C := y.cls) ⟨hx, hb, hml, hown, hts⟩ hM ⟨va_cnB n hts hG rfl hrc hrs (hK.2.1 _ h) (hts _ hE.2.1) hE.2.2 hR, hts _ hT.1, hts _ hT.2⟩ hp' rfl hn a3.1 hst (lv_room hW) d hf
theorem run_I (K : Cx strs D cA h0 p l s m args meth c cc own nL) {b : Nat} (hM : vx_Met l y (wsm y cy ny none) rm (va_Pc (va_rf (some b) :: As) (Pre strs D cA h0 hp)) Qc XC mc ms (Af h0)) {st0 : List Value} (d : decode cc pc = .ok (.invokespecial idx, 3)) (hE : CEE y cy ny none n) (hT : CIN y) (hL : LNK own idx y) (hn : As.length = n) (hst : st0 = As.reverse ++ va_rf (some b) :: st) (hR : rm.frames + 1 ≤ R.frames ∧ 8 + (ny + 11) + rm.locals ≤ R.locals) (hrc : rm.cells = mc) (hrs : rm.slots = ms) (hW : mcat st ≤ 8) (hf : cells + mc ≤ R.cells ∧ slots + ms ≤ R.slots) : RUN D cA h0 p l e R s m args below meth c nL cells slots mc ms hp pc lv st0 st (Qc (va_rf (some b) :: As).toArray) XC := by
  intro H locs ls a1 a2 a3
  obtain ⟨hx, hb, hml, hown, hts, hK, -⟩ := id K
  have hG : GoodIn gdL (wsm y cy ny none) := gdIn (wsm_in (P := fun _ => True) hE.1)
  have hp' : PreS s H (va_Pc (va_rf (some b) :: As) (Pre strs D cA h0 hp)) (.ref b :: As) := ⟨pre_blind, fun U hU hW => ⟨rfl, pre_at K a1 a2 U hU hW⟩⟩
  rcases hL with h | ⟨host, h⟩
  · exact vx_runI (Ts := gdL) (own := own) ⟨hx, hb, hml, hown, hts⟩ hM ⟨callB_of n hts hG rfl hrc hrs (hts _ hE.2.1) (hts _ h) hE.2.2 hR, hT.2, hts _ hT.1⟩ hp' rfl hn a3.1 hst (lv_room hW) d hf
  · exact vx_runIN (Ts := gdL) (own := own) ⟨hx, hb, hml, hown, hts⟩ hM ⟨va_cnB n hts hG rfl hrc hrs (hK.2.1 _ h) (hts _ hE.2.1) hE.2.2 hR, hT.2, hts _ hT.1⟩ hp' rfl hn a3.1 hst (lv_room hW) d hf
-- behind a call: what comes back, and an exception goes on to the caller
variable {β : Type} {res : (β ⊕ String) × hpT} {Qe : Array Value → State → Outcome → State → Prop} {st0 : List Value} {mc' ms' : Nat}
theorem out_of {α : Type} {r1 : (α ⊕ String) × hpT} (K : Cx strs D cA h0 p l s m args meth c cc own nL) (hE : ∀ x ∈ c.exceptionTable.toList, False) (hxx : ∀ E, r1.1 = .inr E → res = (.inr E, r1.2)) (hc : cells ≤ mc) (hs : slots ≤ ms) {rest : List Value} (E : String) (ce : Cell) (q9 : Addr) (t : State) (H1 : Heap) (locs1 : List Loc) (ls : Array Slot) (ht : t.heap = H1) (hb : r1.1 = .inr E ∧ WdX D cA h0 r1.2 t.heap) (a2 : va_S (Af h0) s.heap H1 locs1) (hq : H1[q9]? = some ce) (hv : ce.vm = .none) (hcl : s.vm.findClass E = some ce.cls) : vx_W p l e R s m args below meth c H1 locs1 cells slots (vx_MQ below Qe (XE D cA h0 res) args s mc ms (Af h0)) (F0 m pc ls rest) q9 := by
  refine vx_out (fun x q => (hE x q).elim) K.2.2.2.2.2.2.2 hq hv hcl (fun T hT hal => ?_) a2.2.2 hc hs
  rw [hxx E hb.1]
  exact ⟨(), trivial, ⟨rfl, by rw [hT, ← ht]; exact hb.2⟩, a2.F hT⟩
theorem c_int (K : Cx strs D cA h0 p l s m args meth c cc own nL) (hE : ∀ x ∈ c.exceptionTable.toList, False) {r1 : (Int32 ⊕ String) × hpT} {F : Int32 → hpT → Rs β} {a : Array Value} (hr : RUN D cA h0 p l e R s m args below meth c nL cells slots mc' ms' hp pc lv st0 st (QI D cA h0 r1 a) (XE D cA h0 r1)) (hxx : ∀ E, r1.1 = .inr E → res = (.inr E, r1.2)) (hc : cells + mc' ≤ mc) (hs : slots + ms' ≤ ms) (kk : ∀ v, r1.1 = .inl v → G D cA h0 p l e R s m args below meth c nL (vx_MQ below Qe (XE D cA h0 res) args s mc ms (Af h0)) (cells + mc') (slots + ms') r1.2 (pc + 3) lv (.int v :: st)) : G D cA h0 p l e R s m args below meth c nL (vx_MQ below Qe (XE D cA h0 res) args s mc ms (Af h0)) cells slots hp pc lv st0 := by
  intro H locs ls a1 a2 a3
  refine vx_calli (hr H locs ls a1 a2 a3) a2 (fun _ _ h => h) (fun _ h => h) (fun _ _ h => h) (fun E ce q9 u t H1 locs1 ht _ _ hb _ _ b2 hq hv hcl => out_of K hE hxx hc hs E ce q9 t H1 locs1 ls ht hb b2 hq hv hcl) (fun r u t H1 locs1 ht _ hp1 hB _ _ b2 => ?_)
  exact kk r hp1 H1 locs1 ls (by rw [← ht]; exact hB) b2 a3
theorem c_void (K : Cx strs D cA h0 p l s m args meth c cc own nL) (hE : ∀ x ∈ c.exceptionTable.toList, False) {r1 : (Unit ⊕ String) × hpT} {a : Array Value} (hr : RUN D cA h0 p l e R s m args below meth c nL cells slots mc' ms' hp pc lv st0 st (QV D cA h0 r1 a) (XE D cA h0 r1)) (hxx : ∀ E, r1.1 = .inr E → res = (.inr E, r1.2)) (hc : cells + mc' ≤ mc) (hs : slots + ms' ≤ ms) (kk : ∀ v, r1.1 = .inl v → G D cA h0 p l e R s m args below meth c nL (vx_MQ below Qe (XE D cA h0 res) args s mc ms (Af h0)) (cells + mc') (slots + ms') r1.2 (pc + 3) lv st) : G D cA h0 p l e R s m args below meth c nL (vx_MQ below Qe (XE D cA h0 res) args s mc ms (Af h0)) cells slots hp pc lv st0 := by
  intro H locs ls a1 a2 a3
  refine vx_callv (hr H locs ls a1 a2 a3) a2 (fun _ _ h => h) (fun _ h => h) (fun _ _ h => h) (fun E ce q9 u t H1 locs1 ht _ _ hb _ _ b2 hq hv hcl => out_of K hE hxx hc hs E ce q9 t H1 locs1 ls ht hb b2 hq hv hcl) (fun u t H1 locs1 ht _ hp1 hB _ _ b2 => ?_)
  exact kk () hp1 H1 locs1 ls (by rw [← ht]; exact hB) b2 a3
theorem c_ref (K : Cx strs D cA h0 p l s m args meth c cc own nL) (hE : ∀ x ∈ c.exceptionTable.toList, False) {r1 : (Nat ⊕ String) × hpT} {a : Array Value} (hr : RUN D cA h0 p l e R s m args below meth c nL cells slots mc' ms' hp pc lv st0 st (QR D cA h0 r1 a) (XE D cA h0 r1)) (hxx : ∀ E, r1.1 = .inr E → res = (.inr E, r1.2)) (hc : cells + mc' ≤ mc) (hs : slots + ms' ≤ ms) (kk : ∀ v, r1.1 = .inl v → G D cA h0 p l e R s m args below meth c nL (vx_MQ below Qe (XE D cA h0 res) args s mc ms (Af h0)) (cells + mc') (slots + ms') r1.2 (pc + 3) lv (va_rf (some v) :: st)) : G D cA h0 p l e R s m args below meth c nL (vx_MQ below Qe (XE D cA h0 res) args s mc ms (Af h0)) cells slots hp pc lv st0 := by
  intro H locs ls a1 a2 a3
  refine vx_callq (hr H locs ls a1 a2 a3) a2 (fun _ _ h => h) (fun _ h => h) (fun _ _ h => h) (fun E ce q9 u t H1 locs1 ht _ _ hb _ _ b2 hq hv hcl => out_of K hE hxx hc hs E ce q9 t H1 locs1 ls ht hb b2 hq hv hcl) (fun r u t H1 locs1 ht _ hp1 hB _ _ b2 => ?_)
  obtain ⟨v, rfl, hv⟩ := hp1
  exact kk v hv H1 locs1 ls (by rw [← ht]; exact hB) b2 a3
end GC
end
