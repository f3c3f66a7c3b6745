/-! the words that the places of the code need -/
def strL : List (String × Nat × String) := [(RX7, 263, "an argument is out of range"), (RX7, 40, "a motif for QUARTER is square"), (RX7, 51, "no more patterns"), (RX7, 249, "no such pattern"), (RX7, 72, "no such cell of the motif"), (RX7, 96, "the round does not hold the repeat"), (RX7, 101, "no more rollers"), (RX7, 251, "no such roller"), (RX7, 117, "no more lots"), (RX7, 253, "no such lot"), (RX7, 142, "no such number of a lot"), (RX7, 255, "no such room"), (RX7, 152, "the room is hung"), (RX7, 157, "no more walls"), (RX7, 162, "the room has no wall"), (RX7, 168, "the lot has too few rolls"), (RX7, 261, "no such wall"), (RX7, 182, "the room is bare"), (RX7, 189, "the wall would be too long"), (RX7, 223, "no such number of a room"), (RX7, 229, "no such drop"), (RX7, 244, "no such cell of the wall")]
theorem oi_RX2_3 : Cond.methodLink RX2 3 objectInit ∈ gdL := gdL_in 90 (by decide +kernel) (by decide +kernel)
theorem oi_i : Cond.instanceMethod objectInit ∈ gdL := gdL_in 68 (by decide +kernel) (by decide +kernel)
theorem oi_c : Cond.code objectInit ⟨#[0xb1]⟩ 1 none ∈ gdL := gdL_in 69 (by decide +kernel) (by decide +kernel)
theorem ac_int : Cond.arrayClass .int ∈ gdL := gdL_in 114 (by decide +kernel) (by decide +kernel)
theorem lay_2 : ∀ w ∈ u_ws RX2 TX2 6, w ∈ gdL := by
  intro w hw
  refine List.mem_filter.mpr ?_
  have h := List.all_eq_true.mp (show (u_ws RX2 TX2 6).all (fun w => decide (w ∈ lw_tbl) && goodWord w) = true by decide +kernel) w hw
  simpa using h
theorem fk_RX2_9 : FLK RX2 9 2 0 := ⟨RX2, TX2, 6, tyX2, rfl, by decide, lay_2, tyX2_ok, nmX2, rfl, Or.inl (gdL_in 91 (by decide +kernel) (by decide +kernel))⟩
theorem ff_2_0 : FLF RX2 2 0 (.array .int) := fun C T N h => by cases h; exact ⟨rfl, by decide +kernel, rfl⟩
theorem oi_RX5_3 : Cond.methodLink RX5 3 objectInit ∈ gdL := gdL_in 82 (by decide +kernel) (by decide +kernel)
theorem cl_RX5_9 : Cond.classLink RX5 9 RX6 ∈ gdL := gdL_in 83 (by decide +kernel) (by decide +kernel)
theorem lay_5 : ∀ w ∈ u_ws RX5 TX5 5, w ∈ gdL := by
  intro w hw
  refine List.mem_filter.mpr ?_
  have h := List.all_eq_true.mp (show (u_ws RX5 TX5 5).all (fun w => decide (w ∈ lw_tbl) && goodWord w) = true by decide +kernel) w hw
  simpa using h
theorem fk_RX5_11 : FLK RX5 11 5 0 := ⟨RX5, TX5, 5, tyX5, rfl, by decide, lay_5, tyX5_ok, nmX5, rfl, Or.inl (gdL_in 115 (by decide +kernel) (by decide +kernel))⟩
theorem ff_5_0 : FLF RX5 5 0 (.array (.object "RollerLeaf$Wall")) := fun C T N h => by cases h; exact ⟨rfl, by decide +kernel, rfl⟩
theorem nw_2 : NWO 2 RX2 6 [.null, .int 0, .int 0, .int 0, .int 0, .int 0] := ⟨TX2, tyX2, rfl, lay_2, tyX2_ok, fun j hj => by rcases (show j = 0 ∨ j = 1 ∨ j = 2 ∨ j = 3 ∨ j = 4 ∨ j = 5 by omega) with rfl | rfl | rfl | rfl | rfl | rfl <;> rfl, gdL_in 86 (by decide +kernel) (by decide +kernel), gdL_in 48 (by decide +kernel) (by decide +kernel)⟩
theorem cl_RX5_17 : Cond.classLink RX5 17 RX2 ∈ gdL := gdL_in 85 (by decide +kernel) (by decide +kernel)
theorem ce_X2_init : CEE yX2_init cX2_init 1 none 0 := ⟨gdL_in 89 (by decide +kernel) (by decide +kernel), gdL_in 48 (by decide +kernel) (by decide +kernel), by decide +kernel, by decide +kernel, by decide +kernel⟩
theorem ci_X2_init : CIN yX2_init := ⟨gdL_in 88 (by decide +kernel) (by decide +kernel), rfl⟩
theorem lk_RX5_19 : LNK RX5 19 yX2_init := Or.inr ⟨RX7, ngL_in 87 (by decide +kernel) (by decide +kernel)⟩
theorem fk_RX5_20 : FLK RX5 20 5 1 := ⟨RX5, TX5, 5, tyX5, rfl, by decide, lay_5, tyX5_ok, nmX5, rfl, Or.inl (gdL_in 117 (by decide +kernel) (by decide +kernel))⟩
theorem ff_5_1 : FLF RX5 5 1 (.object "RollerLeaf$OpenedRolls") := fun C T N h => by cases h; exact ⟨rfl, by decide +kernel, rfl⟩
theorem lay_7 : ∀ w ∈ u_ws RX7 TX7 8, w ∈ gdL := by
  intro w hw
  refine List.mem_filter.mpr ?_
  have h := List.all_eq_true.mp (show (u_ws RX7 TX7 8).all (fun w => decide (w ∈ lw_tbl) && goodWord w) = true by decide +kernel) w hw
  simpa using h
theorem fk_RX7_29 : FLK RX7 29 7 6 := ⟨RX7, TX7, 8, tyX7, rfl, by decide, lay_7, tyX7_ok, nmX7, rfl, Or.inl (gdL_in 142 (by decide +kernel) (by decide +kernel))⟩
theorem nw_5 : NWO 5 RX5 5 [.null, .null, .int 0, .null, .int 0] := ⟨TX5, tyX5, rfl, lay_5, tyX5_ok, fun j hj => by rcases (show j = 0 ∨ j = 1 ∨ j = 2 ∨ j = 3 ∨ j = 4 by omega) with rfl | rfl | rfl | rfl | rfl <;> rfl, gdL_in 78 (by decide +kernel) (by decide +kernel), gdL_in 47 (by decide +kernel) (by decide +kernel)⟩
theorem cl_RX7_27 : Cond.classLink RX7 27 RX5 ∈ gdL := gdL_in 76 (by decide +kernel) (by decide +kernel)
theorem ce_X5_init : CEE yX5_init cX5_init 1 none 0 := ⟨gdL_in 81 (by decide +kernel) (by decide +kernel), gdL_in 47 (by decide +kernel) (by decide +kernel), by decide +kernel, by decide +kernel, by decide +kernel⟩
theorem ci_X5_init : CIN yX5_init := ⟨gdL_in 80 (by decide +kernel) (by decide +kernel), rfl⟩
theorem lk_RX7_33 : LNK RX7 33 yX5_init := Or.inr ⟨RX7, ngL_in 79 (by decide +kernel) (by decide +kernel)⟩
theorem oi_RX7_3 : Cond.methodLink RX7 3 objectInit ∈ gdL := gdL_in 67 (by decide +kernel) (by decide +kernel)
theorem cl_RX7_9 : Cond.classLink RX7 9 RX3 ∈ gdL := gdL_in 70 (by decide +kernel) (by decide +kernel)
theorem fk_RX7_11 : FLK RX7 11 7 0 := ⟨RX7, TX7, 8, tyX7, rfl, by decide, lay_7, tyX7_ok, nmX7, rfl, Or.inl (gdL_in 136 (by decide +kernel) (by decide +kernel))⟩
theorem ff_7_0 : FLF RX7 7 0 (.array (.object "RollerLeaf$Pattern")) := fun C T N h => by cases h; exact ⟨rfl, by decide +kernel, rfl⟩
theorem cl_RX7_15 : Cond.classLink RX7 15 RX4 ∈ gdL := gdL_in 72 (by decide +kernel) (by decide +kernel)
theorem fk_RX7_17 : FLK RX7 17 7 2 := ⟨RX7, TX7, 8, tyX7, rfl, by decide, lay_7, tyX7_ok, nmX7, rfl, Or.inl (gdL_in 138 (by decide +kernel) (by decide +kernel))⟩
theorem ff_7_2 : FLF RX7 7 2 (.array (.object "RollerLeaf$Roller")) := fun C T N h => by cases h; exact ⟨rfl, by decide +kernel, rfl⟩
theorem cl_RX7_21 : Cond.classLink RX7 21 RX1 ∈ gdL := gdL_in 74 (by decide +kernel) (by decide +kernel)
theorem fk_RX7_23 : FLK RX7 23 7 4 := ⟨RX7, TX7, 8, tyX7, rfl, by decide, lay_7, tyX7_ok, nmX7, rfl, Or.inl (gdL_in 140 (by decide +kernel) (by decide +kernel))⟩
theorem ff_7_4 : FLF RX7 7 4 (.array (.object "RollerLeaf$Lot")) := fun C T N h => by cases h; exact ⟨rfl, by decide +kernel, rfl⟩
theorem ff_7_6 : FLF RX7 7 6 (.array (.object "RollerLeaf$Room")) := fun C T N h => by cases h; exact ⟨rfl, by decide +kernel, rfl⟩
theorem th_RX7_38_42 : THW RX7 38 42 "java/lang/IllegalArgumentException" ["java/lang/RuntimeException", "java/lang/Exception"] := ⟨by decide +kernel, by decide +kernel, gdL_in 177 (by decide +kernel) (by decide +kernel), gdL_in 53 (by decide +kernel) (by decide +kernel), by
  intro w hw
  have h := List.all_eq_true.mp (show (vx_atS RX7 42 "java/lang/IllegalArgumentException" ["java/lang/RuntimeException", "java/lang/Exception"]).all (fun w => decide (w ∈ lw_tbl) && (goodWord w || ngW w)) = true by decide +kernel) w hw
  simp only [Bool.and_eq_true, Bool.or_eq_true, decide_eq_true_eq] at h
  exact h.2.elim (fun q => Or.inl (List.mem_filter.mpr ⟨h.1, q⟩)) (fun q => Or.inr (List.mem_filter.mpr ⟨h.1, q⟩)), by decide +kernel⟩
theorem st_RX7_263 : (RX7, 263, "an argument is out of range") ∈ strL := List.mem_of_getElem? (i := 0) rfl
theorem oi_RX0_3 : Cond.methodLink RX0 3 objectInit ∈ gdL := gdL_in 272 (by decide +kernel) (by decide +kernel)
theorem lay_0 : ∀ w ∈ u_ws RX0 TX0 3, w ∈ gdL := by
  intro w hw
  refine List.mem_filter.mpr ?_
  have h := List.all_eq_true.mp (show (u_ws RX0 TX0 3).all (fun w => decide (w ∈ lw_tbl) && goodWord w) = true by decide +kernel) w hw
  simpa using h
theorem fk_RX0_9 : FLK RX0 9 0 2 := ⟨RX0, TX0, 3, tyX0, rfl, by decide, lay_0, tyX0_ok, nmX0, rfl, Or.inl (gdL_in 280 (by decide +kernel) (by decide +kernel))⟩
theorem ff_0_2 : FLF RX0 0 2 (.array .int) := fun C T N h => by cases h; exact ⟨rfl, by decide +kernel, rfl⟩
theorem fk_RX0_15 : FLK RX0 15 0 0 := ⟨RX0, TX0, 3, tyX0, rfl, by decide, lay_0, tyX0_ok, nmX0, rfl, Or.inl (gdL_in 273 (by decide +kernel) (by decide +kernel))⟩
theorem ff_0_0 : FLF RX0 0 0 .int := fun C T N h => by cases h; exact ⟨rfl, by decide +kernel, rfl⟩
theorem fk_RX0_19 : FLK RX0 19 0 1 := ⟨RX0, TX0, 3, tyX0, rfl, by decide, lay_0, tyX0_ok, nmX0, rfl, Or.inl (gdL_in 276 (by decide +kernel) (by decide +kernel))⟩
theorem ff_0_1 : FLF RX0 0 1 .int := fun C T N h => by cases h; exact ⟨rfl, by decide +kernel, rfl⟩
theorem lay_3 : ∀ w ∈ u_ws RX3 TX3 4, w ∈ gdL := by
  intro w hw
  refine List.mem_filter.mpr ?_
  have h := List.all_eq_true.mp (show (u_ws RX3 TX3 4).all (fun w => decide (w ∈ lw_tbl) && goodWord w) = true by decide +kernel) w hw
  simpa using h
theorem fk_RX3_24 : FLK RX3 24 3 2 := ⟨RX3, TX3, 4, tyX3, rfl, by decide, lay_3, tyX3_ok, nmX3, rfl, Or.inl (gdL_in 291 (by decide +kernel) (by decide +kernel))⟩
theorem ff_3_2 : FLF RX3 3 2 .int := fun C T N h => by cases h; exact ⟨rfl, by decide +kernel, rfl⟩
theorem fk_RX3_27 : FLK RX3 27 3 3 := ⟨RX3, TX3, 4, tyX3, rfl, by decide, lay_3, tyX3_ok, nmX3, rfl, Or.inl (gdL_in 293 (by decide +kernel) (by decide +kernel))⟩
theorem ff_3_3 : FLF RX3 3 3 .int := fun C T N h => by cases h; exact ⟨rfl, by decide +kernel, rfl⟩
theorem oi_RX3_3 : Cond.methodLink RX3 3 objectInit ∈ gdL := gdL_in 266 (by decide +kernel) (by decide +kernel)
theorem nw_0 : NWO 0 RX0 3 [.int 0, .int 0, .null] := ⟨TX0, tyX0, rfl, lay_0, tyX0_ok, fun j hj => by rcases (show j = 0 ∨ j = 1 ∨ j = 2 by omega) with rfl | rfl | rfl <;> rfl, gdL_in 268 (by decide +kernel) (by decide +kernel), gdL_in 56 (by decide +kernel) (by decide +kernel)⟩
theorem cl_RX3_9 : Cond.classLink RX3 9 RX0 ∈ gdL := gdL_in 267 (by decide +kernel) (by decide +kernel)
theorem ce_X0_init : CEE yX0_init cX0_init 3 none 2 := ⟨gdL_in 271 (by decide +kernel) (by decide +kernel), gdL_in 56 (by decide +kernel) (by decide +kernel), by decide +kernel, by decide +kernel, by decide +kernel⟩
theorem ci_X0_init : CIN yX0_init := ⟨gdL_in 270 (by decide +kernel) (by decide +kernel), rfl⟩
theorem lk_RX3_11 : LNK RX3 11 yX0_init := Or.inr ⟨RX7, ngL_in 269 (by decide +kernel) (by decide +kernel)⟩
theorem fk_RX3_14 : FLK RX3 14 3 0 := ⟨RX3, TX3, 4, tyX3, rfl, by decide, lay_3, tyX3_ok, nmX3, rfl, Or.inl (gdL_in 288 (by decide +kernel) (by decide +kernel))⟩
theorem ff_3_0 : FLF RX3 3 0 (.object "RollerLeaf$Cells") := fun C T N h => by cases h; exact ⟨rfl, by decide +kernel, rfl⟩
theorem fk_RX3_20 : FLK RX3 20 3 1 := ⟨RX3, TX3, 4, tyX3, rfl, by decide, lay_3, tyX3_ok, nmX3, rfl, Or.inl (gdL_in 290 (by decide +kernel) (by decide +kernel))⟩
theorem ff_3_1 : FLF RX3 3 1 .int := fun C T N h => by cases h; exact ⟨rfl, by decide +kernel, rfl⟩
theorem th_RX7_49_53 : THW RX7 49 53 "java/lang/IllegalStateException" ["java/lang/RuntimeException", "java/lang/Exception"] := ⟨by decide +kernel, by decide +kernel, gdL_in 246 (by decide +kernel) (by decide +kernel), gdL_in 54 (by decide +kernel) (by decide +kernel), by
  intro w hw
  have h := List.all_eq_true.mp (show (vx_atS RX7 53 "java/lang/IllegalStateException" ["java/lang/RuntimeException", "java/lang/Exception"]).all (fun w => decide (w ∈ lw_tbl) && (goodWord w || ngW w)) = true by decide +kernel) w hw
  simp only [Bool.and_eq_true, Bool.or_eq_true, decide_eq_true_eq] at h
  exact h.2.elim (fun q => Or.inl (List.mem_filter.mpr ⟨h.1, q⟩)) (fun q => Or.inr (List.mem_filter.mpr ⟨h.1, q⟩)), by decide +kernel⟩
theorem st_RX7_51 : (RX7, 51, "no more patterns") ∈ strL := List.mem_of_getElem? (i := 2) rfl
theorem fk_RX7_45 : FLK RX7 45 7 1 := ⟨RX7, TX7, 8, tyX7, rfl, by decide, lay_7, tyX7_ok, nmX7, rfl, Or.inl (gdL_in 137 (by decide +kernel) (by decide +kernel))⟩
theorem nw_3 : NWO 3 RX3 4 [.null, .int 0, .int 0, .int 0] := ⟨TX3, tyX3, rfl, lay_3, tyX3_ok, fun j hj => by rcases (show j = 0 ∨ j = 1 ∨ j = 2 ∨ j = 3 by omega) with rfl | rfl | rfl | rfl <;> rfl, gdL_in 262 (by decide +kernel) (by decide +kernel), gdL_in 55 (by decide +kernel) (by decide +kernel)⟩
theorem ce_X3_init : CEE yX3_init cX3_init 6 none 3 := ⟨gdL_in 265 (by decide +kernel) (by decide +kernel), gdL_in 55 (by decide +kernel) (by decide +kernel), by decide +kernel, by decide +kernel, by decide +kernel⟩
theorem ci_X3_init : CIN yX3_init := ⟨gdL_in 264 (by decide +kernel) (by decide +kernel), rfl⟩
theorem lk_RX7_54 : LNK RX7 54 yX3_init := Or.inr ⟨RX7, ngL_in 263 (by decide +kernel) (by decide +kernel)⟩
theorem fn_7_1 : FLN 7 1 .int := fun C T N h => by cases h; exact ⟨rfl, by decide +kernel⟩
theorem ce_X7_requireWithin : CEE yX7_requireWithin cX7_requireWithin 3 none 3 := ⟨gdL_in 176 (by decide +kernel) (by decide +kernel), gdL_in 46 (by decide +kernel) (by decide +kernel), by decide +kernel, by decide +kernel, by decide +kernel⟩
theorem cs_X7_requireWithin : CST yX7_requireWithin := gdL_in 175 (by decide +kernel) (by decide +kernel)
theorem lk_RX7_34 : LNK RX7 34 yX7_requireWithin := Or.inl (gdL_in 174 (by decide +kernel) (by decide +kernel))
theorem st_RX7_40 : (RX7, 40, "a motif for QUARTER is square") ∈ strL := List.mem_of_getElem? (i := 1) rfl
theorem th_RX7_70_74 : THW RX7 70 74 "java/lang/IndexOutOfBoundsException" ["java/lang/RuntimeException", "java/lang/Exception"] := ⟨by decide +kernel, by decide +kernel, gdL_in 316 (by decide +kernel) (by decide +kernel), gdL_in 57 (by decide +kernel) (by decide +kernel), by
  intro w hw
  have h := List.all_eq_true.mp (show (vx_atS RX7 74 "java/lang/IndexOutOfBoundsException" ["java/lang/RuntimeException", "java/lang/Exception"]).all (fun w => decide (w ∈ lw_tbl) && (goodWord w || ngW w)) = true by decide +kernel) w hw
  simp only [Bool.and_eq_true, Bool.or_eq_true, decide_eq_true_eq] at h
  exact h.2.elim (fun q => Or.inl (List.mem_filter.mpr ⟨h.1, q⟩)) (fun q => Or.inr (List.mem_filter.mpr ⟨h.1, q⟩)), by decide +kernel⟩
theorem st_RX7_249 : (RX7, 249, "no such pattern") ∈ strL := List.mem_of_getElem? (i := 3) rfl
theorem ce_X7_wrapped : CEE yX7_wrapped cX7_wrapped 3 (some .int) 2 := ⟨gdL_in 347 (by decide +kernel) (by decide +kernel), gdL_in 46 (by decide +kernel) (by decide +kernel), by decide +kernel, by decide +kernel, by decide +kernel⟩
theorem cs_X7_wrapped : CST yX7_wrapped := gdL_in 346 (by decide +kernel) (by decide +kernel)
theorem lk_RX0_26 : LNK RX0 26 yX7_wrapped := Or.inr ⟨RX7, ngL_in 345 (by decide +kernel) (by decide +kernel)⟩
theorem ce_X0_place : CEE yX0_place cX0_place 3 (some .int) 2 := ⟨gdL_in 344 (by decide +kernel) (by decide +kernel), gdL_in 56 (by decide +kernel) (by decide +kernel), by decide +kernel, by decide +kernel, by decide +kernel⟩
theorem cv_X0_place : CVI yX0_place := ⟨gdL_in 343 (by decide +kernel) (by decide +kernel), gdL_in 4 (by decide +kernel) (by decide +kernel)⟩
theorem lk_RX0_22 : LNK RX0 22 yX0_place := Or.inl (gdL_in 341 (by decide +kernel) (by decide +kernel))
theorem ce_X7_patternAt : CEE yX7_patternAt cX7_patternAt 3 (some (.object "RollerLeaf$Pattern")) 1 := ⟨gdL_in 315 (by decide +kernel) (by decide +kernel), gdL_in 46 (by decide +kernel) (by decide +kernel), by decide +kernel, by decide +kernel, by decide +kernel⟩
theorem cv_X7_patternAt : CVI yX7_patternAt := ⟨gdL_in 314 (by decide +kernel) (by decide +kernel), gdL_in 1 (by decide +kernel) (by decide +kernel)⟩
theorem lk_RX7_56 : LNK RX7 56 yX7_patternAt := Or.inl (gdL_in 312 (by decide +kernel) (by decide +kernel))
theorem fk_RX7_60 : FLK RX7 60 3 0 := ⟨RX3, TX3, 4, tyX3, rfl, by decide, lay_3, tyX3_ok, nmX3, rfl, Or.inr ⟨RX7, ngL_in 289 (by decide +kernel) (by decide +kernel)⟩⟩
theorem ce_X0_holds : CEE yX0_holds cX0_holds 3 (some .boolean) 2 := ⟨gdL_in 335 (by decide +kernel) (by decide +kernel), gdL_in 56 (by decide +kernel) (by decide +kernel), by decide +kernel, by decide +kernel, by decide +kernel⟩
theorem cv_X0_holds : CVI yX0_holds := ⟨gdL_in 334 (by decide +kernel) (by decide +kernel), gdL_in 2 (by decide +kernel) (by decide +kernel)⟩
theorem lk_RX7_64 : LNK RX7 64 yX0_holds := Or.inr ⟨RX7, ngL_in 332 (by decide +kernel) (by decide +kernel)⟩
theorem ce_X0_colourAt : CEE yX0_colourAt cX0_colourAt 4 (some .int) 2 := ⟨gdL_in 340 (by decide +kernel) (by decide +kernel), gdL_in 56 (by decide +kernel) (by decide +kernel), by decide +kernel, by decide +kernel, by decide +kernel⟩
theorem cv_X0_colourAt : CVI yX0_colourAt := ⟨gdL_in 339 (by decide +kernel) (by decide +kernel), gdL_in 3 (by decide +kernel) (by decide +kernel)⟩
theorem lk_RX7_75 : LNK RX7 75 yX0_colourAt := Or.inr ⟨RX7, ngL_in 337 (by decide +kernel) (by decide +kernel)⟩
theorem ce_X0_put : CEE yX0_put cX0_put 5 none 3 := ⟨gdL_in 351 (by decide +kernel) (by decide +kernel), gdL_in 56 (by decide +kernel) (by decide +kernel), by decide +kernel, by decide +kernel, by decide +kernel⟩
theorem cv_X0_put : CVI yX0_put := ⟨gdL_in 350 (by decide +kernel) (by decide +kernel), gdL_in 5 (by decide +kernel) (by decide +kernel)⟩
theorem lk_RX7_79 : LNK RX7 79 yX0_put := Or.inr ⟨RX7, ngL_in 348 (by decide +kernel) (by decide +kernel)⟩
theorem st_RX7_72 : (RX7, 72, "no such cell of the motif") ∈ strL := List.mem_of_getElem? (i := 4) rfl
theorem lk_RX3_47 : LNK RX3 47 yX0_colourAt := Or.inr ⟨RX7, ngL_in 372 (by decide +kernel) (by decide +kernel)⟩
theorem ce_X3_flipsRows : CEE yX3_flipsRows cX3_flipsRows 3 (some .boolean) 2 := ⟨gdL_in 371 (by decide +kernel) (by decide +kernel), gdL_in 55 (by decide +kernel) (by decide +kernel), by decide +kernel, by decide +kernel, by decide +kernel⟩
theorem cv_X3_flipsRows : CVI yX3_flipsRows := ⟨gdL_in 370 (by decide +kernel) (by decide +kernel), gdL_in 8 (by decide +kernel) (by decide +kernel)⟩
theorem lk_RX3_44 : LNK RX3 44 yX3_flipsRows := Or.inl (gdL_in 368 (by decide +kernel) (by decide +kernel))
theorem fk_RX3_37 : FLK RX3 37 0 1 := ⟨RX0, TX0, 3, tyX0, rfl, by decide, lay_0, tyX0_ok, nmX0, rfl, Or.inr ⟨RX7, ngL_in 278 (by decide +kernel) (by decide +kernel)⟩⟩
theorem ce_X3_flipsColumns : CEE yX3_flipsColumns cX3_flipsColumns 3 (some .boolean) 2 := ⟨gdL_in 367 (by decide +kernel) (by decide +kernel), gdL_in 55 (by decide +kernel) (by decide +kernel), by decide +kernel, by decide +kernel, by decide +kernel⟩
theorem cv_X3_flipsColumns : CVI yX3_flipsColumns := ⟨gdL_in 366 (by decide +kernel) (by decide +kernel), gdL_in 7 (by decide +kernel) (by decide +kernel)⟩
theorem lk_RX3_40 : LNK RX3 40 yX3_flipsColumns := Or.inl (gdL_in 364 (by decide +kernel) (by decide +kernel))
theorem fk_RX3_34 : FLK RX3 34 0 0 := ⟨RX0, TX0, 3, tyX0, rfl, by decide, lay_0, tyX0_ok, nmX0, rfl, Or.inr ⟨RX7, ngL_in 274 (by decide +kernel) (by decide +kernel)⟩⟩
theorem lk_RX3_30 : LNK RX3 30 yX7_wrapped := Or.inr ⟨RX7, ngL_in 363 (by decide +kernel) (by decide +kernel)⟩
theorem ce_X3_colourAt : CEE yX3_colourAt cX3_colourAt 8 (some .int) 2 := ⟨gdL_in 362 (by decide +kernel) (by decide +kernel), gdL_in 55 (by decide +kernel) (by decide +kernel), by decide +kernel, by decide +kernel, by decide +kernel⟩
theorem cv_X3_colourAt : CVI yX3_colourAt := ⟨gdL_in 361 (by decide +kernel) (by decide +kernel), gdL_in 6 (by decide +kernel) (by decide +kernel)⟩
theorem lk_RX7_82 : LNK RX7 82 yX3_colourAt := Or.inr ⟨RX7, ngL_in 359 (by decide +kernel) (by decide +kernel)⟩
theorem fk_RX7_86 : FLK RX7 86 3 2 := ⟨RX3, TX3, 4, tyX3, rfl, by decide, lay_3, tyX3_ok, nmX3, rfl, Or.inr ⟨RX7, ngL_in 292 (by decide +kernel) (by decide +kernel)⟩⟩
theorem fk_RX7_83 : FLK RX7 83 3 3 := ⟨RX3, TX3, 4, tyX3, rfl, by decide, lay_3, tyX3_ok, nmX3, rfl, Or.inr ⟨RX7, ngL_in 294 (by decide +kernel) (by decide +kernel)⟩⟩
theorem lk_RX3_54 : LNK RX3 54 yX3_colourAt := Or.inl (gdL_in 395 (by decide +kernel) (by decide +kernel))
theorem ce_X3_staysWhenMoved : CEE yX3_staysWhenMoved cX3_staysWhenMoved 5 (some .boolean) 2 := ⟨gdL_in 394 (by decide +kernel) (by decide +kernel), gdL_in 55 (by decide +kernel) (by decide +kernel), by decide +kernel, by decide +kernel, by decide +kernel⟩
theorem cv_X3_staysWhenMoved : CVI yX3_staysWhenMoved := ⟨gdL_in 393 (by decide +kernel) (by decide +kernel), gdL_in 10 (by decide +kernel) (by decide +kernel)⟩
theorem lk_RX3_50 : LNK RX3 50 yX3_staysWhenMoved := Or.inl (gdL_in 391 (by decide +kernel) (by decide +kernel))
theorem ce_X3_leastMove : CEE yX3_leastMove cX3_leastMove 4 (some .int) 1 := ⟨gdL_in 390 (by decide +kernel) (by decide +kernel), gdL_in 55 (by decide +kernel) (by decide +kernel), by decide +kernel, by decide +kernel, by decide +kernel⟩
theorem cv_X3_leastMove : CVI yX3_leastMove := ⟨gdL_in 389 (by decide +kernel) (by decide +kernel), gdL_in 9 (by decide +kernel) (by decide +kernel)⟩
theorem lk_RX7_89 : LNK RX7 89 yX3_leastMove := Or.inr ⟨RX7, ngL_in 387 (by decide +kernel) (by decide +kernel)⟩
theorem lk_RX3_55 : LNK RX3 55 yX0_put := Or.inr ⟨RX7, ngL_in 411 (by decide +kernel) (by decide +kernel)⟩
theorem oi_RX4_1 : Cond.methodLink RX4 1 objectInit ∈ gdL := gdL_in 415 (by decide +kernel) (by decide +kernel)
theorem lay_4 : ∀ w ∈ u_ws RX4 TX4 2, w ∈ gdL := by
  intro w hw
  refine List.mem_filter.mpr ?_
  have h := List.all_eq_true.mp (show (u_ws RX4 TX4 2).all (fun w => decide (w ∈ lw_tbl) && goodWord w) = true by decide +kernel) w hw
  simpa using h
theorem fk_RX4_7 : FLK RX4 7 4 0 := ⟨RX4, TX4, 2, tyX4, rfl, by decide, lay_4, tyX4_ok, nmX4, rfl, Or.inl (gdL_in 416 (by decide +kernel) (by decide +kernel))⟩
theorem ff_4_0 : FLF RX4 4 0 .int := fun C T N h => by cases h; exact ⟨rfl, by decide +kernel, rfl⟩
theorem fk_RX4_13 : FLK RX4 13 4 1 := ⟨RX4, TX4, 2, tyX4, rfl, by decide, lay_4, tyX4_ok, nmX4, rfl, Or.inl (gdL_in 418 (by decide +kernel) (by decide +kernel))⟩
theorem ff_4_1 : FLF RX4 4 1 (.object "RollerLeaf$Cells") := fun C T N h => by cases h; exact ⟨rfl, by decide +kernel, rfl⟩
theorem st_RX7_101 : (RX7, 101, "no more rollers") ∈ strL := List.mem_of_getElem? (i := 6) rfl
theorem lk_RX7_93 : LNK RX7 93 yX7_wrapped := Or.inl (gdL_in 403 (by decide +kernel) (by decide +kernel))
theorem fk_RX7_98 : FLK RX7 98 7 3 := ⟨RX7, TX7, 8, tyX7, rfl, by decide, lay_7, tyX7_ok, nmX7, rfl, Or.inl (gdL_in 139 (by decide +kernel) (by decide +kernel))⟩
theorem nw_4 : NWO 4 RX4 2 [.int 0, .null] := ⟨TX4, tyX4, rfl, lay_4, tyX4_ok, fun j hj => by rcases (show j = 0 ∨ j = 1 by omega) with rfl | rfl <;> rfl, gdL_in 406 (by decide +kernel) (by decide +kernel), gdL_in 58 (by decide +kernel) (by decide +kernel)⟩
theorem ce_X3_drawn : CEE yX3_drawn cX3_drawn 4 (some (.object "RollerLeaf$Cells")) 0 := ⟨gdL_in 410 (by decide +kernel) (by decide +kernel), gdL_in 55 (by decide +kernel) (by decide +kernel), by decide +kernel, by decide +kernel, by decide +kernel⟩
theorem cv_X3_drawn : CVI yX3_drawn := ⟨gdL_in 409 (by decide +kernel) (by decide +kernel), gdL_in 11 (by decide +kernel) (by decide +kernel)⟩
theorem lk_RX7_103 : LNK RX7 103 yX3_drawn := Or.inr ⟨RX7, ngL_in 407 (by decide +kernel) (by decide +kernel)⟩
theorem ce_X4_init : CEE yX4_init cX4_init 3 none 2 := ⟨gdL_in 414 (by decide +kernel) (by decide +kernel), gdL_in 58 (by decide +kernel) (by decide +kernel), by decide +kernel, by decide +kernel, by decide +kernel⟩
theorem ci_X4_init : CIN yX4_init := ⟨gdL_in 413 (by decide +kernel) (by decide +kernel), rfl⟩
theorem lk_RX7_107 : LNK RX7 107 yX4_init := Or.inr ⟨RX7, ngL_in 412 (by decide +kernel) (by decide +kernel)⟩
theorem fn_7_3 : FLN 7 3 .int := fun C T N h => by cases h; exact ⟨rfl, by decide +kernel⟩
theorem st_RX7_96 : (RX7, 96, "the round does not hold the repeat") ∈ strL := List.mem_of_getElem? (i := 5) rfl
theorem st_RX7_251 : (RX7, 251, "no such roller") ∈ strL := List.mem_of_getElem? (i := 7) rfl
theorem oi_RX1_1 : Cond.methodLink RX1 1 objectInit ∈ gdL := gdL_in 444 (by decide +kernel) (by decide +kernel)
theorem lay_1 : ∀ w ∈ u_ws RX1 TX1 5, w ∈ gdL := by
  intro w hw
  refine List.mem_filter.mpr ?_
  have h := List.all_eq_true.mp (show (u_ws RX1 TX1 5).all (fun w => decide (w ∈ lw_tbl) && goodWord w) = true by decide +kernel) w hw
  simpa using h
theorem fk_RX1_7 : FLK RX1 7 1 0 := ⟨RX1, TX1, 5, tyX1, rfl, by decide, lay_1, tyX1_ok, nmX1, rfl, Or.inl (gdL_in 445 (by decide +kernel) (by decide +kernel))⟩
theorem ff_1_0 : FLF RX1 1 0 (.object "RollerLeaf$Roller") := fun C T N h => by cases h; exact ⟨rfl, by decide +kernel, rfl⟩
theorem fk_RX1_13 : FLK RX1 13 1 1 := ⟨RX1, TX1, 5, tyX1, rfl, by decide, lay_1, tyX1_ok, nmX1, rfl, Or.inl (gdL_in 449 (by decide +kernel) (by decide +kernel))⟩
theorem ff_1_1 : FLF RX1 1 1 .int := fun C T N h => by cases h; exact ⟨rfl, by decide +kernel, rfl⟩
theorem fk_RX1_17 : FLK RX1 17 1 2 := ⟨RX1, TX1, 5, tyX1, rfl, by decide, lay_1, tyX1_ok, nmX1, rfl, Or.inl (gdL_in 451 (by decide +kernel) (by decide +kernel))⟩
theorem ff_1_2 : FLF RX1 1 2 .int := fun C T N h => by cases h; exact ⟨rfl, by decide +kernel, rfl⟩
theorem fk_RX1_20 : FLK RX1 20 1 4 := ⟨RX1, TX1, 5, tyX1, rfl, by decide, lay_1, tyX1_ok, nmX1, rfl, Or.inl (gdL_in 457 (by decide +kernel) (by decide +kernel))⟩
theorem fn_1_4 : FLN 1 4 .int := fun C T N h => by cases h; exact ⟨rfl, by decide +kernel⟩
theorem fk_RX1_23 : FLK RX1 23 1 3 := ⟨RX1, TX1, 5, tyX1, rfl, by decide, lay_1, tyX1_ok, nmX1, rfl, Or.inl (gdL_in 453 (by decide +kernel) (by decide +kernel))⟩
theorem ff_1_3 : FLF RX1 1 3 .int := fun C T N h => by cases h; exact ⟨rfl, by decide +kernel, rfl⟩
theorem st_RX7_117 : (RX7, 117, "no more lots") ∈ strL := List.mem_of_getElem? (i := 8) rfl
theorem ce_X7_rollerAt : CEE yX7_rollerAt cX7_rollerAt 3 (some (.object "RollerLeaf$Roller")) 1 := ⟨gdL_in 437 (by decide +kernel) (by decide +kernel), gdL_in 46 (by decide +kernel) (by decide +kernel), by decide +kernel, by decide +kernel, by decide +kernel⟩
theorem cv_X7_rollerAt : CVI yX7_rollerAt := ⟨gdL_in 436 (by decide +kernel) (by decide +kernel), gdL_in 12 (by decide +kernel) (by decide +kernel)⟩
theorem lk_RX7_110 : LNK RX7 110 yX7_rollerAt := Or.inl (gdL_in 434 (by decide +kernel) (by decide +kernel))
theorem fk_RX7_114 : FLK RX7 114 7 5 := ⟨RX7, TX7, 8, tyX7, rfl, by decide, lay_7, tyX7_ok, nmX7, rfl, Or.inl (gdL_in 141 (by decide +kernel) (by decide +kernel))⟩
theorem nw_1 : NWO 1 RX1 5 [.null, .int 0, .int 0, .int 0, .int 0] := ⟨TX1, tyX1, rfl, lay_1, tyX1_ok, fun j hj => by rcases (show j = 0 ∨ j = 1 ∨ j = 2 ∨ j = 3 ∨ j = 4 by omega) with rfl | rfl | rfl | rfl | rfl <;> rfl, gdL_in 440 (by decide +kernel) (by decide +kernel), gdL_in 59 (by decide +kernel) (by decide +kernel)⟩
theorem ce_X1_init : CEE yX1_init cX1_init 6 none 5 := ⟨gdL_in 443 (by decide +kernel) (by decide +kernel), gdL_in 59 (by decide +kernel) (by decide +kernel), by decide +kernel, by decide +kernel, by decide +kernel⟩
theorem ci_X1_init : CIN yX1_init := ⟨gdL_in 442 (by decide +kernel) (by decide +kernel), rfl⟩
theorem lk_RX7_119 : LNK RX7 119 yX1_init := Or.inr ⟨RX7, ngL_in 441 (by decide +kernel) (by decide +kernel)⟩
theorem fn_7_5 : FLN 7 5 .int := fun C T N h => by cases h; exact ⟨rfl, by decide +kernel⟩
theorem st_RX7_253 : (RX7, 253, "no such lot") ∈ strL := List.mem_of_getElem? (i := 9) rfl
theorem fk_RX1_26 : FLK RX1 26 4 0 := ⟨RX4, TX4, 2, tyX4, rfl, by decide, lay_4, tyX4_ok, nmX4, rfl, Or.inr ⟨RX7, ngL_in 417 (by decide +kernel) (by decide +kernel)⟩⟩
theorem ce_X7_lotAt : CEE yX7_lotAt cX7_lotAt 3 (some (.object "RollerLeaf$Lot")) 1 := ⟨gdL_in 482 (by decide +kernel) (by decide +kernel), gdL_in 46 (by decide +kernel) (by decide +kernel), by decide +kernel, by decide +kernel, by decide +kernel⟩
theorem cv_X7_lotAt : CVI yX7_lotAt := ⟨gdL_in 481 (by decide +kernel) (by decide +kernel), gdL_in 13 (by decide +kernel) (by decide +kernel)⟩
theorem lk_RX7_122 : LNK RX7 122 yX7_lotAt := Or.inl (gdL_in 479 (by decide +kernel) (by decide +kernel))
theorem fk_RX7_126 : FLK RX7 126 1 1 := ⟨RX1, TX1, 5, tyX1, rfl, by decide, lay_1, tyX1_ok, nmX1, rfl, Or.inr ⟨RX7, ngL_in 450 (by decide +kernel) (by decide +kernel)⟩⟩
theorem fk_RX7_129 : FLK RX7 129 1 2 := ⟨RX1, TX1, 5, tyX1, rfl, by decide, lay_1, tyX1_ok, nmX1, rfl, Or.inr ⟨RX7, ngL_in 452 (by decide +kernel) (by decide +kernel)⟩⟩
theorem fk_RX7_132 : FLK RX7 132 1 4 := ⟨RX1, TX1, 5, tyX1, rfl, by decide, lay_1, tyX1_ok, nmX1, rfl, Or.inr ⟨RX7, ngL_in 460 (by decide +kernel) (by decide +kernel)⟩⟩
theorem fk_RX7_135 : FLK RX7 135 1 3 := ⟨RX1, TX1, 5, tyX1, rfl, by decide, lay_1, tyX1_ok, nmX1, rfl, Or.inr ⟨RX7, ngL_in 455 (by decide +kernel) (by decide +kernel)⟩⟩
theorem ce_X1_roundsOfARoll : CEE yX1_roundsOfARoll cX1_roundsOfARoll 2 (some .int) 0 := ⟨gdL_in 487 (by decide +kernel) (by decide +kernel), gdL_in 59 (by decide +kernel) (by decide +kernel), by decide +kernel, by decide +kernel, by decide +kernel⟩
theorem cv_X1_roundsOfARoll : CVI yX1_roundsOfARoll := ⟨gdL_in 486 (by decide +kernel) (by decide +kernel), gdL_in 14 (by decide +kernel) (by decide +kernel)⟩
theorem lk_RX7_138 : LNK RX7 138 yX1_roundsOfARoll := Or.inr ⟨RX7, ngL_in 484 (by decide +kernel) (by decide +kernel)⟩
theorem st_RX7_142 : (RX7, 142, "no such number of a lot") ∈ strL := List.mem_of_getElem? (i := 10) rfl
theorem st_RX7_255 : (RX7, 255, "no such room") ∈ strL := List.mem_of_getElem? (i := 11) rfl
theorem fk_RX5_24 : FLK RX5 24 5 3 := ⟨RX5, TX5, 5, tyX5, rfl, by decide, lay_5, tyX5_ok, nmX5, rfl, Or.inl (gdL_in 121 (by decide +kernel) (by decide +kernel))⟩
theorem oi_RX6_3 : Cond.methodLink RX6 3 objectInit ∈ gdL := gdL_in 514 (by decide +kernel) (by decide +kernel)
theorem lay_6 : ∀ w ∈ u_ws RX6 TX6 3, w ∈ gdL := by
  intro w hw
  refine List.mem_filter.mpr ?_
  have h := List.all_eq_true.mp (show (u_ws RX6 TX6 3).all (fun w => decide (w ∈ lw_tbl) && goodWord w) = true by decide +kernel) w hw
  simpa using h
theorem fk_RX6_9 : FLK RX6 9 6 1 := ⟨RX6, TX6, 3, tyX6, rfl, by decide, lay_6, tyX6_ok, nmX6, rfl, Or.inl (gdL_in 518 (by decide +kernel) (by decide +kernel))⟩
theorem ff_6_1 : FLF RX6 6 1 (.array .int) := fun C T N h => by cases h; exact ⟨rfl, by decide +kernel, rfl⟩
theorem fk_RX6_15 : FLK RX6 15 6 2 := ⟨RX6, TX6, 3, tyX6, rfl, by decide, lay_6, tyX6_ok, nmX6, rfl, Or.inl (gdL_in 520 (by decide +kernel) (by decide +kernel))⟩
theorem fn_6_2 : FLN 6 2 .int := fun C T N h => by cases h; exact ⟨rfl, by decide +kernel⟩
theorem fk_RX6_19 : FLK RX6 19 6 0 := ⟨RX6, TX6, 3, tyX6, rfl, by decide, lay_6, tyX6_ok, nmX6, rfl, Or.inl (gdL_in 515 (by decide +kernel) (by decide +kernel))⟩
theorem ff_6_0 : FLF RX6 6 0 .int := fun C T N h => by cases h; exact ⟨rfl, by decide +kernel, rfl⟩
theorem fk_RX5_28 : FLK RX5 28 5 2 := ⟨RX5, TX5, 5, tyX5, rfl, by decide, lay_5, tyX5_ok, nmX5, rfl, Or.inl (gdL_in 119 (by decide +kernel) (by decide +kernel))⟩
theorem nw_6 : NWO 6 RX6 3 [.int 0, .null, .int 0] := ⟨TX6, tyX6, rfl, lay_6, tyX6_ok, fun j hj => by rcases (show j = 0 ∨ j = 1 ∨ j = 2 by omega) with rfl | rfl | rfl <;> rfl, gdL_in 510 (by decide +kernel) (by decide +kernel), gdL_in 60 (by decide +kernel) (by decide +kernel)⟩
theorem ce_X6_init : CEE yX6_init cX6_init 3 none 2 := ⟨gdL_in 513 (by decide +kernel) (by decide +kernel), gdL_in 60 (by decide +kernel) (by decide +kernel), by decide +kernel, by decide +kernel, by decide +kernel⟩
theorem ci_X6_init : CIN yX6_init := ⟨gdL_in 512 (by decide +kernel) (by decide +kernel), rfl⟩
theorem lk_RX5_32 : LNK RX5 32 yX6_init := Or.inr ⟨RX7, ngL_in 511 (by decide +kernel) (by decide +kernel)⟩
theorem fn_5_2 : FLN 5 2 .int := fun C T N h => by cases h; exact ⟨rfl, by decide +kernel⟩
theorem ce_X7_roomAt : CEE yX7_roomAt cX7_roomAt 3 (some (.object "RollerLeaf$Room")) 1 := ⟨gdL_in 499 (by decide +kernel) (by decide +kernel), gdL_in 46 (by decide +kernel) (by decide +kernel), by decide +kernel, by decide +kernel, by decide +kernel⟩
theorem cv_X7_roomAt : CVI yX7_roomAt := ⟨gdL_in 498 (by decide +kernel) (by decide +kernel), gdL_in 15 (by decide +kernel) (by decide +kernel)⟩
theorem lk_RX7_144 : LNK RX7 144 yX7_roomAt := Or.inl (gdL_in 496 (by decide +kernel) (by decide +kernel))
theorem ce_X5_isHung : CEE yX5_isHung cX5_isHung 1 (some .boolean) 0 := ⟨gdL_in 504 (by decide +kernel) (by decide +kernel), gdL_in 47 (by decide +kernel) (by decide +kernel), by decide +kernel, by decide +kernel, by decide +kernel⟩
theorem cv_X5_isHung : CVI yX5_isHung := ⟨gdL_in 503 (by decide +kernel) (by decide +kernel), gdL_in 16 (by decide +kernel) (by decide +kernel)⟩
theorem lk_RX7_148 : LNK RX7 148 yX5_isHung := Or.inr ⟨RX7, ngL_in 501 (by decide +kernel) (by decide +kernel)⟩
theorem ce_X5_addWall : CEE yX5_addWall cX5_addWall 4 (some .int) 2 := ⟨gdL_in 509 (by decide +kernel) (by decide +kernel), gdL_in 47 (by decide +kernel) (by decide +kernel), by decide +kernel, by decide +kernel, by decide +kernel⟩
theorem cv_X5_addWall : CVI yX5_addWall := ⟨gdL_in 508 (by decide +kernel) (by decide +kernel), gdL_in 17 (by decide +kernel) (by decide +kernel)⟩
theorem lk_RX7_154 : LNK RX7 154 yX5_addWall := Or.inr ⟨RX7, ngL_in 506 (by decide +kernel) (by decide +kernel)⟩
theorem st_RX7_157 : (RX7, 157, "no more walls") ∈ strL := List.mem_of_getElem? (i := 13) rfl
theorem st_RX7_152 : (RX7, 152, "the room is hung") ∈ strL := List.mem_of_getElem? (i := 12) rfl
theorem fk_RX2_15 : FLK RX2 15 2 1 := ⟨RX2, TX2, 6, tyX2, rfl, by decide, lay_2, tyX2_ok, nmX2, rfl, Or.inl (gdL_in 92 (by decide +kernel) (by decide +kernel))⟩
theorem fn_2_1 : FLN 2 1 .int := fun C T N h => by cases h; exact ⟨rfl, by decide +kernel⟩
theorem fk_RX2_19 : FLK RX2 19 1 4 := ⟨RX1, TX1, 5, tyX1, rfl, by decide, lay_1, tyX1_ok, nmX1, rfl, Or.inr ⟨RX7, ngL_in 458 (by decide +kernel) (by decide +kernel)⟩⟩
theorem fk_RX2_24 : FLK RX2 24 2 2 := ⟨RX2, TX2, 6, tyX2, rfl, by decide, lay_2, tyX2_ok, nmX2, rfl, Or.inl (gdL_in 95 (by decide +kernel) (by decide +kernel))⟩
theorem fn_2_2 : FLN 2 2 .int := fun C T N h => by cases h; exact ⟨rfl, by decide +kernel⟩
theorem fk_RX2_27 : FLK RX2 27 1 3 := ⟨RX1, TX1, 5, tyX1, rfl, by decide, lay_1, tyX1_ok, nmX1, rfl, Or.inr ⟨RX7, ngL_in 454 (by decide +kernel) (by decide +kernel)⟩⟩
theorem fk_RX2_30 : FLK RX2 30 2 3 := ⟨RX2, TX2, 6, tyX2, rfl, by decide, lay_2, tyX2_ok, nmX2, rfl, Or.inl (gdL_in 97 (by decide +kernel) (by decide +kernel))⟩
theorem fn_2_3 : FLN 2 3 .int := fun C T N h => by cases h; exact ⟨rfl, by decide +kernel⟩
theorem fk_RX2_31 : FLK RX2 31 1 0 := ⟨RX1, TX1, 5, tyX1, rfl, by decide, lay_1, tyX1_ok, nmX1, rfl, Or.inr ⟨RX7, ngL_in 446 (by decide +kernel) (by decide +kernel)⟩⟩
theorem fk_RX2_35 : FLK RX2 35 4 1 := ⟨RX4, TX4, 2, tyX4, rfl, by decide, lay_4, tyX4_ok, nmX4, rfl, Or.inr ⟨RX7, ngL_in 419 (by decide +kernel) (by decide +kernel)⟩⟩
theorem fk_RX2_41 : FLK RX2 41 0 1 := ⟨RX0, TX0, 3, tyX0, rfl, by decide, lay_0, tyX0_ok, nmX0, rfl, Or.inr ⟨RX7, ngL_in 277 (by decide +kernel) (by decide +kernel)⟩⟩
theorem fk_RX2_46 : FLK RX2 46 2 4 := ⟨RX2, TX2, 6, tyX2, rfl, by decide, lay_2, tyX2_ok, nmX2, rfl, Or.inl (gdL_in 98 (by decide +kernel) (by decide +kernel))⟩
theorem fn_2_4 : FLN 2 4 .int := fun C T N h => by cases h; exact ⟨rfl, by decide +kernel⟩
theorem fk_RX2_49 : FLK RX2 49 2 5 := ⟨RX2, TX2, 6, tyX2, rfl, by decide, lay_2, tyX2_ok, nmX2, rfl, Or.inl (gdL_in 99 (by decide +kernel) (by decide +kernel))⟩
theorem fn_2_5 : FLN 2 5 .int := fun C T N h => by cases h; exact ⟨rfl, by decide +kernel⟩
theorem ce_X2_takeFromNewRoll : CEE yX2_takeFromNewRoll cX2_takeFromNewRoll 4 (some .int) 1 := ⟨gdL_in 566 (by decide +kernel) (by decide +kernel), gdL_in 48 (by decide +kernel) (by decide +kernel), by decide +kernel, by decide +kernel, by decide +kernel⟩
theorem cv_X2_takeFromNewRoll : CVI yX2_takeFromNewRoll := ⟨gdL_in 565 (by decide +kernel) (by decide +kernel), gdL_in 23 (by decide +kernel) (by decide +kernel)⟩
theorem lk_RX2_56 : LNK RX2 56 yX2_takeFromNewRoll := Or.inl (gdL_in 563 (by decide +kernel) (by decide +kernel))
theorem lk_RX2_52 : LNK RX2 52 yX7_wrapped := Or.inr ⟨RX7, ngL_in 562 (by decide +kernel) (by decide +kernel)⟩
theorem ce_X2_takeDrop : CEE yX2_takeDrop cX2_takeDrop 4 (some .int) 1 := ⟨gdL_in 561 (by decide +kernel) (by decide +kernel), gdL_in 48 (by decide +kernel) (by decide +kernel), by decide +kernel, by decide +kernel, by decide +kernel⟩
theorem cv_X2_takeDrop : CVI yX2_takeDrop := ⟨gdL_in 560 (by decide +kernel) (by decide +kernel), gdL_in 22 (by decide +kernel) (by decide +kernel)⟩
theorem lk_RX6_28 : LNK RX6 28 yX2_takeDrop := Or.inr ⟨RX7, ngL_in 558 (by decide +kernel) (by decide +kernel)⟩
theorem ce_J9_max_7cf53 : CEE yJ9_max_7cf53 cJ9_max_7cf53 2 (some .int) 2 := ⟨gdL_in 557 (by decide +kernel) (by decide +kernel), gdL_in 61 (by decide +kernel) (by decide +kernel), by decide +kernel, by decide +kernel, by decide +kernel⟩
theorem cs_J9_max_7cf53 : CST yJ9_max_7cf53 := gdL_in 556 (by decide +kernel) (by decide +kernel)
theorem lk_RX6_22 : LNK RX6 22 yJ9_max_7cf53 := Or.inl (gdL_in 555 (by decide +kernel) (by decide +kernel))
theorem ce_X6_takeDrops : CEE yX6_takeDrops cX6_takeDrops 4 (some .boolean) 2 := ⟨gdL_in 554 (by decide +kernel) (by decide +kernel), gdL_in 60 (by decide +kernel) (by decide +kernel), by decide +kernel, by decide +kernel, by decide +kernel⟩
theorem cv_X6_takeDrops : CVI yX6_takeDrops := ⟨gdL_in 553 (by decide +kernel) (by decide +kernel), gdL_in 21 (by decide +kernel) (by decide +kernel)⟩
theorem lk_RX5_63 : LNK RX5 63 yX6_takeDrops := Or.inr ⟨RX7, ngL_in 551 (by decide +kernel) (by decide +kernel)⟩
theorem ce_X2_beginAnew : CEE yX2_beginAnew cX2_beginAnew 3 none 2 := ⟨gdL_in 550 (by decide +kernel) (by decide +kernel), gdL_in 48 (by decide +kernel) (by decide +kernel), by decide +kernel, by decide +kernel, by decide +kernel⟩
theorem cv_X2_beginAnew : CVI yX2_beginAnew := ⟨gdL_in 549 (by decide +kernel) (by decide +kernel), gdL_in 20 (by decide +kernel) (by decide +kernel)⟩
theorem lk_RX5_59 : LNK RX5 59 yX2_beginAnew := Or.inr ⟨RX7, ngL_in 547 (by decide +kernel) (by decide +kernel)⟩
theorem fk_RX5_35 : FLK RX5 35 1 0 := ⟨RX1, TX1, 5, tyX1, rfl, by decide, lay_1, tyX1_ok, nmX1, rfl, Or.inr ⟨RX7, ngL_in 447 (by decide +kernel) (by decide +kernel)⟩⟩
theorem fk_RX5_41 : FLK RX5 41 4 1 := ⟨RX4, TX4, 2, tyX4, rfl, by decide, lay_4, tyX4_ok, nmX4, rfl, Or.inr ⟨RX7, ngL_in 420 (by decide +kernel) (by decide +kernel)⟩⟩
theorem fk_RX5_47 : FLK RX5 47 0 1 := ⟨RX0, TX0, 3, tyX0, rfl, by decide, lay_0, tyX0_ok, nmX0, rfl, Or.inr ⟨RX7, ngL_in 279 (by decide +kernel) (by decide +kernel)⟩⟩
theorem ce_X5_cutAll : CEE yX5_cutAll cX5_cutAll 7 (some .boolean) 2 := ⟨gdL_in 546 (by decide +kernel) (by decide +kernel), gdL_in 47 (by decide +kernel) (by decide +kernel), by decide +kernel, by decide +kernel, by decide +kernel⟩
theorem cv_X5_cutAll : CVI yX5_cutAll := ⟨gdL_in 545 (by decide +kernel) (by decide +kernel), gdL_in 19 (by decide +kernel) (by decide +kernel)⟩
theorem lk_RX5_52 : LNK RX5 52 yX5_cutAll := Or.inl (gdL_in 543 (by decide +kernel) (by decide +kernel))
theorem fk_RX5_56 : FLK RX5 56 2 1 := ⟨RX2, TX2, 6, tyX2, rfl, by decide, lay_2, tyX2_ok, nmX2, rfl, Or.inr ⟨RX7, ngL_in 93 (by decide +kernel) (by decide +kernel)⟩⟩
theorem fk_RX5_67 : FLK RX5 67 1 4 := ⟨RX1, TX1, 5, tyX1, rfl, by decide, lay_1, tyX1_ok, nmX1, rfl, Or.inr ⟨RX7, ngL_in 459 (by decide +kernel) (by decide +kernel)⟩⟩
theorem fn_5_3 : FLN 5 3 (.object "RollerLeaf$Lot") := fun C T N h => by cases h; exact ⟨rfl, by decide +kernel⟩
theorem fk_RX5_70 : FLK RX5 70 5 4 := ⟨RX5, TX5, 5, tyX5, rfl, by decide, lay_5, tyX5_ok, nmX5, rfl, Or.inl (gdL_in 123 (by decide +kernel) (by decide +kernel))⟩
theorem fn_5_4 : FLN 5 4 .int := fun C T N h => by cases h; exact ⟨rfl, by decide +kernel⟩
theorem fk_RX7_159 : FLK RX7 159 5 2 := ⟨RX5, TX5, 5, tyX5, rfl, by decide, lay_5, tyX5_ok, nmX5, rfl, Or.inr ⟨RX7, ngL_in 120 (by decide +kernel) (by decide +kernel)⟩⟩
theorem ce_X5_bestPhase : CEE yX5_bestPhase cX5_bestPhase 5 (some .int) 1 := ⟨gdL_in 542 (by decide +kernel) (by decide +kernel), gdL_in 47 (by decide +kernel) (by decide +kernel), by decide +kernel, by decide +kernel, by decide +kernel⟩
theorem cv_X5_bestPhase : CVI yX5_bestPhase := ⟨gdL_in 541 (by decide +kernel) (by decide +kernel), gdL_in 18 (by decide +kernel) (by decide +kernel)⟩
theorem lk_RX7_164 : LNK RX7 164 yX5_bestPhase := Or.inr ⟨RX7, ngL_in 539 (by decide +kernel) (by decide +kernel)⟩
theorem ce_X5_hangFrom : CEE yX5_hangFrom cX5_hangFrom 4 (some .int) 3 := ⟨gdL_in 571 (by decide +kernel) (by decide +kernel), gdL_in 47 (by decide +kernel) (by decide +kernel), by decide +kernel, by decide +kernel, by decide +kernel⟩
theorem cv_X5_hangFrom : CVI yX5_hangFrom := ⟨gdL_in 570 (by decide +kernel) (by decide +kernel), gdL_in 24 (by decide +kernel) (by decide +kernel)⟩
theorem lk_RX7_170 : LNK RX7 170 yX5_hangFrom := Or.inr ⟨RX7, ngL_in 568 (by decide +kernel) (by decide +kernel)⟩
theorem st_RX7_168 : (RX7, 168, "the lot has too few rolls") ∈ strL := List.mem_of_getElem? (i := 15) rfl
theorem st_RX7_162 : (RX7, 162, "the room has no wall") ∈ strL := List.mem_of_getElem? (i := 14) rfl
theorem st_RX7_261 : (RX7, 261, "no such wall") ∈ strL := List.mem_of_getElem? (i := 16) rfl
theorem fk_RX7_257 : FLK RX7 257 5 0 := ⟨RX5, TX5, 5, tyX5, rfl, by decide, lay_5, tyX5_ok, nmX5, rfl, Or.inr ⟨RX7, ngL_in 116 (by decide +kernel) (by decide +kernel)⟩⟩
theorem fk_RX5_73 : FLK RX5 73 6 2 := ⟨RX6, TX6, 3, tyX6, rfl, by decide, lay_6, tyX6_ok, nmX6, rfl, Or.inr ⟨RX7, ngL_in 521 (by decide +kernel) (by decide +kernel)⟩⟩
theorem fk_RX5_76 : FLK RX5 76 2 2 := ⟨RX2, TX2, 6, tyX2, rfl, by decide, lay_2, tyX2_ok, nmX2, rfl, Or.inr ⟨RX7, ngL_in 96 (by decide +kernel) (by decide +kernel)⟩⟩
theorem fk_RX7_246 : FLK RX7 246 7 7 := ⟨RX7, TX7, 8, tyX7, rfl, by decide, lay_7, tyX7_ok, nmX7, rfl, Or.inl (gdL_in 143 (by decide +kernel) (by decide +kernel))⟩
theorem fn_7_7 : FLN 7 7 .int := fun C T N h => by cases h; exact ⟨rfl, by decide +kernel⟩
theorem ce_X7_wallAt : CEE yX7_wallAt cX7_wallAt 3 (some (.object "RollerLeaf$Wall")) 2 := ⟨gdL_in 581 (by decide +kernel) (by decide +kernel), gdL_in 46 (by decide +kernel) (by decide +kernel), by decide +kernel, by decide +kernel, by decide +kernel⟩
theorem cs_X7_wallAt : CST yX7_wallAt := gdL_in 580 (by decide +kernel) (by decide +kernel)
theorem lk_RX7_174 : LNK RX7 174 yX7_wallAt := Or.inl (gdL_in 579 (by decide +kernel) (by decide +kernel))
theorem fk_RX7_178 : FLK RX7 178 5 3 := ⟨RX5, TX5, 5, tyX5, rfl, by decide, lay_5, tyX5_ok, nmX5, rfl, Or.inr ⟨RX7, ngL_in 122 (by decide +kernel) (by decide +kernel)⟩⟩
theorem st_RX7_182 : (RX7, 182, "the room is bare") ∈ strL := List.mem_of_getElem? (i := 17) rfl
theorem fk_RX7_184 : FLK RX7 184 6 2 := ⟨RX6, TX6, 3, tyX6, rfl, by decide, lay_6, tyX6_ok, nmX6, rfl, Or.inr ⟨RX7, ngL_in 522 (by decide +kernel) (by decide +kernel)⟩⟩
theorem fk_RX7_191 : FLK RX7 191 5 1 := ⟨RX5, TX5, 5, tyX5, rfl, by decide, lay_5, tyX5_ok, nmX5, rfl, Or.inr ⟨RX7, ngL_in 118 (by decide +kernel) (by decide +kernel)⟩⟩
theorem fk_RX7_195 : FLK RX7 195 2 1 := ⟨RX2, TX2, 6, tyX2, rfl, by decide, lay_2, tyX2_ok, nmX2, rfl, Or.inr ⟨RX7, ngL_in 94 (by decide +kernel) (by decide +kernel)⟩⟩
theorem ce_X5_lengthenFrom : CEE yX5_lengthenFrom cX5_lengthenFrom 7 (some .boolean) 3 := ⟨gdL_in 588 (by decide +kernel) (by decide +kernel), gdL_in 47 (by decide +kernel) (by decide +kernel), by decide +kernel, by decide +kernel, by decide +kernel⟩
theorem cv_X5_lengthenFrom : CVI yX5_lengthenFrom := ⟨gdL_in 587 (by decide +kernel) (by decide +kernel), gdL_in 25 (by decide +kernel) (by decide +kernel)⟩
theorem lk_RX7_200 : LNK RX7 200 yX5_lengthenFrom := Or.inr ⟨RX7, ngL_in 585 (by decide +kernel) (by decide +kernel)⟩
theorem ce_X7_lose : CEE yX7_lose cX7_lose 3 none 2 := ⟨gdL_in 592 (by decide +kernel) (by decide +kernel), gdL_in 46 (by decide +kernel) (by decide +kernel), by decide +kernel, by decide +kernel, by decide +kernel⟩
theorem cv_X7_lose : CVI yX7_lose := ⟨gdL_in 591 (by decide +kernel) (by decide +kernel), gdL_in 26 (by decide +kernel) (by decide +kernel)⟩
theorem lk_RX7_204 : LNK RX7 204 yX7_lose := Or.inl (gdL_in 589 (by decide +kernel) (by decide +kernel))
theorem ce_X5_makeBare : CEE yX5_makeBare cX5_makeBare 1 none 0 := ⟨gdL_in 596 (by decide +kernel) (by decide +kernel), gdL_in 47 (by decide +kernel) (by decide +kernel), by decide +kernel, by decide +kernel, by decide +kernel⟩
theorem cv_X5_makeBare : CVI yX5_makeBare := ⟨gdL_in 595 (by decide +kernel) (by decide +kernel), gdL_in 27 (by decide +kernel) (by decide +kernel)⟩
theorem lk_RX7_208 : LNK RX7 208 yX5_makeBare := Or.inr ⟨RX7, ngL_in 593 (by decide +kernel) (by decide +kernel)⟩
theorem st_RX7_189 : (RX7, 189, "the wall would be too long") ∈ strL := List.mem_of_getElem? (i := 18) rfl
theorem fk_RX5_82 : FLK RX5 82 6 0 := ⟨RX6, TX6, 3, tyX6, rfl, by decide, lay_6, tyX6_ok, nmX6, rfl, Or.inr ⟨RX7, ngL_in 516 (by decide +kernel) (by decide +kernel)⟩⟩
theorem fk_RX5_79 : FLK RX5 79 1 3 := ⟨RX1, TX1, 5, tyX1, rfl, by decide, lay_1, tyX1_ok, nmX1, rfl, Or.inr ⟨RX7, ngL_in 456 (by decide +kernel) (by decide +kernel)⟩⟩
theorem ce_X5_allDrops : CEE yX5_allDrops cX5_allDrops 6 (some .int) 0 := ⟨gdL_in 614 (by decide +kernel) (by decide +kernel), gdL_in 47 (by decide +kernel) (by decide +kernel), by decide +kernel, by decide +kernel, by decide +kernel⟩
theorem cv_X5_allDrops : CVI yX5_allDrops := ⟨gdL_in 613 (by decide +kernel) (by decide +kernel), gdL_in 28 (by decide +kernel) (by decide +kernel)⟩
theorem lk_RX7_211 : LNK RX7 211 yX5_allDrops := Or.inr ⟨RX7, ngL_in 611 (by decide +kernel) (by decide +kernel)⟩
theorem fk_RX7_214 : FLK RX7 214 5 4 := ⟨RX5, TX5, 5, tyX5, rfl, by decide, lay_5, tyX5_ok, nmX5, rfl, Or.inr ⟨RX7, ngL_in 124 (by decide +kernel) (by decide +kernel)⟩⟩
theorem fk_RX7_217 : FLK RX7 217 2 5 := ⟨RX2, TX2, 6, tyX2, rfl, by decide, lay_2, tyX2_ok, nmX2, rfl, Or.inr ⟨RX7, ngL_in 100 (by decide +kernel) (by decide +kernel)⟩⟩
theorem ce_X5_waste : CEE yX5_waste cX5_waste 6 (some .int) 0 := ⟨gdL_in 618 (by decide +kernel) (by decide +kernel), gdL_in 47 (by decide +kernel) (by decide +kernel), by decide +kernel, by decide +kernel, by decide +kernel⟩
theorem cv_X5_waste : CVI yX5_waste := ⟨gdL_in 617 (by decide +kernel) (by decide +kernel), gdL_in 29 (by decide +kernel) (by decide +kernel)⟩
theorem lk_RX7_220 : LNK RX7 220 yX5_waste := Or.inr ⟨RX7, ngL_in 615 (by decide +kernel) (by decide +kernel)⟩
theorem st_RX7_223 : (RX7, 223, "no such number of a room") ∈ strL := List.mem_of_getElem? (i := 19) rfl
theorem st_RX7_229 : (RX7, 229, "no such drop") ∈ strL := List.mem_of_getElem? (i := 20) rfl
theorem fk_RX7_225 : FLK RX7 225 6 1 := ⟨RX6, TX6, 3, tyX6, rfl, by decide, lay_6, tyX6_ok, nmX6, rfl, Or.inr ⟨RX7, ngL_in 519 (by decide +kernel) (by decide +kernel)⟩⟩
theorem st_RX7_244 : (RX7, 244, "no such cell of the wall") ∈ strL := List.mem_of_getElem? (i := 21) rfl
theorem fk_RX7_231 : FLK RX7 231 1 0 := ⟨RX1, TX1, 5, tyX1, rfl, by decide, lay_1, tyX1_ok, nmX1, rfl, Or.inr ⟨RX7, ngL_in 448 (by decide +kernel) (by decide +kernel)⟩⟩
theorem fk_RX7_235 : FLK RX7 235 4 1 := ⟨RX4, TX4, 2, tyX4, rfl, by decide, lay_4, tyX4_ok, nmX4, rfl, Or.inr ⟨RX7, ngL_in 421 (by decide +kernel) (by decide +kernel)⟩⟩
theorem fk_RX7_238 : FLK RX7 238 0 0 := ⟨RX0, TX0, 3, tyX0, rfl, by decide, lay_0, tyX0_ok, nmX0, rfl, Or.inr ⟨RX7, ngL_in 275 (by decide +kernel) (by decide +kernel)⟩⟩
theorem fk_RX7_241 : FLK RX7 241 6 0 := ⟨RX6, TX6, 3, tyX6, rfl, by decide, lay_6, tyX6_ok, nmX6, rfl, Or.inr ⟨RX7, ngL_in 517 (by decide +kernel) (by decide +kernel)⟩⟩
theorem lay_8 : ∀ w ∈ u_ws RX8 TX8 29, w ∈ gdL := by
  intro w hw
  refine List.mem_filter.mpr ?_
  have h := List.all_eq_true.mp (show (u_ws RX8 TX8 29).all (fun w => decide (w ∈ lw_tbl) && goodWord w) = true by decide +kernel) w hw
  simpa using h
theorem fk_RX8_52 : FLK RX8 52 8 18 := ⟨RX8, TX8, 29, tyX8, rfl, by decide, lay_8, tyX8_ok, nmX8, rfl, Or.inl (gdL_in 660 (by decide +kernel) (by decide +kernel))⟩
theorem oi_RX8_1 : Cond.methodLink RX8 1 objectInit ∈ gdL := gdL_in 641 (by decide +kernel) (by decide +kernel)
theorem fk_RX8_7 : FLK RX8 7 8 2 := ⟨RX8, TX8, 29, tyX8, rfl, by decide, lay_8, tyX8_ok, nmX8, rfl, Or.inl (gdL_in 644 (by decide +kernel) (by decide +kernel))⟩
theorem ff_8_2 : FLF RX8 8 2 (.array .int) := fun C T N h => by cases h; exact ⟨rfl, by decide +kernel, rfl⟩
theorem fk_RX8_13 : FLK RX8 13 8 3 := ⟨RX8, TX8, 29, tyX8, rfl, by decide, lay_8, tyX8_ok, nmX8, rfl, Or.inl (gdL_in 645 (by decide +kernel) (by decide +kernel))⟩
theorem ff_8_3 : FLF RX8 8 3 (.array .int) := fun C T N h => by cases h; exact ⟨rfl, by decide +kernel, rfl⟩
theorem fk_RX8_16 : FLK RX8 16 8 4 := ⟨RX8, TX8, 29, tyX8, rfl, by decide, lay_8, tyX8_ok, nmX8, rfl, Or.inl (gdL_in 646 (by decide +kernel) (by decide +kernel))⟩
theorem ff_8_4 : FLF RX8 8 4 (.array .int) := fun C T N h => by cases h; exact ⟨rfl, by decide +kernel, rfl⟩
theorem fk_RX8_19 : FLK RX8 19 8 5 := ⟨RX8, TX8, 29, tyX8, rfl, by decide, lay_8, tyX8_ok, nmX8, rfl, Or.inl (gdL_in 647 (by decide +kernel) (by decide +kernel))⟩
theorem ff_8_5 : FLF RX8 8 5 (.array .int) := fun C T N h => by cases h; exact ⟨rfl, by decide +kernel, rfl⟩
theorem fk_RX8_22 : FLK RX8 22 8 7 := ⟨RX8, TX8, 29, tyX8, rfl, by decide, lay_8, tyX8_ok, nmX8, rfl, Or.inl (gdL_in 649 (by decide +kernel) (by decide +kernel))⟩
theorem ff_8_7 : FLF RX8 8 7 (.array .int) := fun C T N h => by cases h; exact ⟨rfl, by decide +kernel, rfl⟩
theorem fk_RX8_25 : FLK RX8 25 8 8 := ⟨RX8, TX8, 29, tyX8, rfl, by decide, lay_8, tyX8_ok, nmX8, rfl, Or.inl (gdL_in 650 (by decide +kernel) (by decide +kernel))⟩
theorem ff_8_8 : FLF RX8 8 8 (.array .int) := fun C T N h => by cases h; exact ⟨rfl, by decide +kernel, rfl⟩
theorem fk_RX8_28 : FLK RX8 28 8 9 := ⟨RX8, TX8, 29, tyX8, rfl, by decide, lay_8, tyX8_ok, nmX8, rfl, Or.inl (gdL_in 651 (by decide +kernel) (by decide +kernel))⟩
theorem ff_8_9 : FLF RX8 8 9 (.array .int) := fun C T N h => by cases h; exact ⟨rfl, by decide +kernel, rfl⟩
theorem fk_RX8_31 : FLK RX8 31 8 11 := ⟨RX8, TX8, 29, tyX8, rfl, by decide, lay_8, tyX8_ok, nmX8, rfl, Or.inl (gdL_in 653 (by decide +kernel) (by decide +kernel))⟩
theorem ff_8_11 : FLF RX8 8 11 (.array .int) := fun C T N h => by cases h; exact ⟨rfl, by decide +kernel, rfl⟩
theorem fk_RX8_34 : FLK RX8 34 8 12 := ⟨RX8, TX8, 29, tyX8, rfl, by decide, lay_8, tyX8_ok, nmX8, rfl, Or.inl (gdL_in 654 (by decide +kernel) (by decide +kernel))⟩
theorem ff_8_12 : FLF RX8 8 12 (.array .int) := fun C T N h => by cases h; exact ⟨rfl, by decide +kernel, rfl⟩
theorem fk_RX8_37 : FLK RX8 37 8 13 := ⟨RX8, TX8, 29, tyX8, rfl, by decide, lay_8, tyX8_ok, nmX8, rfl, Or.inl (gdL_in 655 (by decide +kernel) (by decide +kernel))⟩
theorem ff_8_13 : FLF RX8 8 13 (.array .int) := fun C T N h => by cases h; exact ⟨rfl, by decide +kernel, rfl⟩
theorem fk_RX8_40 : FLK RX8 40 8 14 := ⟨RX8, TX8, 29, tyX8, rfl, by decide, lay_8, tyX8_ok, nmX8, rfl, Or.inl (gdL_in 656 (by decide +kernel) (by decide +kernel))⟩
theorem ff_8_14 : FLF RX8 8 14 (.array .int) := fun C T N h => by cases h; exact ⟨rfl, by decide +kernel, rfl⟩
theorem fk_RX8_43 : FLK RX8 43 8 15 := ⟨RX8, TX8, 29, tyX8, rfl, by decide, lay_8, tyX8_ok, nmX8, rfl, Or.inl (gdL_in 657 (by decide +kernel) (by decide +kernel))⟩
theorem ff_8_15 : FLF RX8 8 15 (.array .int) := fun C T N h => by cases h; exact ⟨rfl, by decide +kernel, rfl⟩
theorem fk_RX8_46 : FLK RX8 46 8 16 := ⟨RX8, TX8, 29, tyX8, rfl, by decide, lay_8, tyX8_ok, nmX8, rfl, Or.inl (gdL_in 658 (by decide +kernel) (by decide +kernel))⟩
theorem ff_8_16 : FLF RX8 8 16 (.array .int) := fun C T N h => by cases h; exact ⟨rfl, by decide +kernel, rfl⟩
theorem fk_RX8_49 : FLK RX8 49 8 17 := ⟨RX8, TX8, 29, tyX8, rfl, by decide, lay_8, tyX8_ok, nmX8, rfl, Or.inl (gdL_in 659 (by decide +kernel) (by decide +kernel))⟩
theorem ff_8_17 : FLF RX8 8 17 (.array .int) := fun C T N h => by cases h; exact ⟨rfl, by decide +kernel, rfl⟩
theorem ff_8_18 : FLF RX8 8 18 (.array .int) := fun C T N h => by cases h; exact ⟨rfl, by decide +kernel, rfl⟩
theorem fk_RX8_55 : FLK RX8 55 8 19 := ⟨RX8, TX8, 29, tyX8, rfl, by decide, lay_8, tyX8_ok, nmX8, rfl, Or.inl (gdL_in 661 (by decide +kernel) (by decide +kernel))⟩
theorem ff_8_19 : FLF RX8 8 19 (.array .int) := fun C T N h => by cases h; exact ⟨rfl, by decide +kernel, rfl⟩
theorem fk_RX8_58 : FLK RX8 58 8 20 := ⟨RX8, TX8, 29, tyX8, rfl, by decide, lay_8, tyX8_ok, nmX8, rfl, Or.inl (gdL_in 662 (by decide +kernel) (by decide +kernel))⟩
theorem ff_8_20 : FLF RX8 8 20 (.array .int) := fun C T N h => by cases h; exact ⟨rfl, by decide +kernel, rfl⟩
theorem fk_RX8_61 : FLK RX8 61 8 21 := ⟨RX8, TX8, 29, tyX8, rfl, by decide, lay_8, tyX8_ok, nmX8, rfl, Or.inl (gdL_in 663 (by decide +kernel) (by decide +kernel))⟩
theorem ff_8_21 : FLF RX8 8 21 (.array .int) := fun C T N h => by cases h; exact ⟨rfl, by decide +kernel, rfl⟩
theorem fk_RX8_64 : FLK RX8 64 8 22 := ⟨RX8, TX8, 29, tyX8, rfl, by decide, lay_8, tyX8_ok, nmX8, rfl, Or.inl (gdL_in 664 (by decide +kernel) (by decide +kernel))⟩
theorem ff_8_22 : FLF RX8 8 22 (.array .int) := fun C T N h => by cases h; exact ⟨rfl, by decide +kernel, rfl⟩
theorem fk_RX8_67 : FLK RX8 67 8 26 := ⟨RX8, TX8, 29, tyX8, rfl, by decide, lay_8, tyX8_ok, nmX8, rfl, Or.inl (gdL_in 668 (by decide +kernel) (by decide +kernel))⟩
theorem ff_8_26 : FLF RX8 8 26 (.array .int) := fun C T N h => by cases h; exact ⟨rfl, by decide +kernel, rfl⟩
theorem fk_RX8_70 : FLK RX8 70 8 27 := ⟨RX8, TX8, 29, tyX8, rfl, by decide, lay_8, tyX8_ok, nmX8, rfl, Or.inl (gdL_in 669 (by decide +kernel) (by decide +kernel))⟩
theorem ff_8_27 : FLF RX8 8 27 (.array .int) := fun C T N h => by cases h; exact ⟨rfl, by decide +kernel, rfl⟩
theorem fk_RX8_73 : FLK RX8 73 8 0 := ⟨RX8, TX8, 29, tyX8, rfl, by decide, lay_8, tyX8_ok, nmX8, rfl, Or.inl (gdL_in 642 (by decide +kernel) (by decide +kernel))⟩
theorem fn_8_0 : FLN 8 0 .int := fun C T N h => by cases h; exact ⟨rfl, by decide +kernel⟩
theorem fk_RX8_77 : FLK RX8 77 8 1 := ⟨RX8, TX8, 29, tyX8, rfl, by decide, lay_8, tyX8_ok, nmX8, rfl, Or.inl (gdL_in 643 (by decide +kernel) (by decide +kernel))⟩
theorem ce_X8_is : CEE yX8_is cX8_is 3 (some .boolean) 3 := ⟨gdL_in 740 (by decide +kernel) (by decide +kernel), gdL_in 49 (by decide +kernel) (by decide +kernel), by decide +kernel, by decide +kernel, by decide +kernel⟩
theorem cs_X8_is : CST yX8_is := gdL_in 739 (by decide +kernel) (by decide +kernel)
theorem lk_RX8_80 : LNK RX8 80 yX8_is := Or.inl (gdL_in 738 (by decide +kernel) (by decide +kernel))
theorem ce_X8_refused : CEE yX8_refused cX8_refused 2 (some .boolean) 1 := ⟨gdL_in 744 (by decide +kernel) (by decide +kernel), gdL_in 49 (by decide +kernel) (by decide +kernel), by decide +kernel, by decide +kernel, by decide +kernel⟩
theorem cv_X8_refused : CVI yX8_refused := ⟨gdL_in 743 (by decide +kernel) (by decide +kernel), gdL_in 30 (by decide +kernel) (by decide +kernel)⟩
theorem lk_RX8_84 : LNK RX8 84 yX8_refused := Or.inl (gdL_in 741 (by decide +kernel) (by decide +kernel))
theorem fn_8_1 : FLN 8 1 .int := fun C T N h => by cases h; exact ⟨rfl, by decide +kernel⟩
theorem ce_X8_isPattern : CEE yX8_isPattern cX8_isPattern 2 (some .boolean) 1 := ⟨gdL_in 752 (by decide +kernel) (by decide +kernel), gdL_in 49 (by decide +kernel) (by decide +kernel), by decide +kernel, by decide +kernel, by decide +kernel⟩
theorem cv_X8_isPattern : CVI yX8_isPattern := ⟨gdL_in 751 (by decide +kernel) (by decide +kernel), gdL_in 31 (by decide +kernel) (by decide +kernel)⟩
theorem lk_RX8_88 : LNK RX8 88 yX8_isPattern := Or.inl (gdL_in 749 (by decide +kernel) (by decide +kernel))
theorem ce_X8_columns : CEE yX8_columns cX8_columns 2 (some .int) 1 := ⟨gdL_in 764 (by decide +kernel) (by decide +kernel), gdL_in 49 (by decide +kernel) (by decide +kernel), by decide +kernel, by decide +kernel, by decide +kernel⟩
theorem cv_X8_columns : CVI yX8_columns := ⟨gdL_in 763 (by decide +kernel) (by decide +kernel), gdL_in 33 (by decide +kernel) (by decide +kernel)⟩
theorem lk_RX8_91 : LNK RX8 91 yX8_columns := Or.inl (gdL_in 761 (by decide +kernel) (by decide +kernel))
theorem ce_X8_modulo : CEE yX8_modulo cX8_modulo 3 (some .int) 2 := ⟨gdL_in 767 (by decide +kernel) (by decide +kernel), gdL_in 49 (by decide +kernel) (by decide +kernel), by decide +kernel, by decide +kernel, by decide +kernel⟩
theorem cs_X8_modulo : CST yX8_modulo := gdL_in 766 (by decide +kernel) (by decide +kernel)
theorem lk_RX8_95 : LNK RX8 95 yX8_modulo := Or.inl (gdL_in 765 (by decide +kernel) (by decide +kernel))
theorem ce_X8_rows : CEE yX8_rows cX8_rows 2 (some .int) 1 := ⟨gdL_in 771 (by decide +kernel) (by decide +kernel), gdL_in 49 (by decide +kernel) (by decide +kernel), by decide +kernel, by decide +kernel, by decide +kernel⟩
theorem cv_X8_rows : CVI yX8_rows := ⟨gdL_in 770 (by decide +kernel) (by decide +kernel), gdL_in 34 (by decide +kernel) (by decide +kernel)⟩
theorem lk_RX8_99 : LNK RX8 99 yX8_rows := Or.inl (gdL_in 768 (by decide +kernel) (by decide +kernel))
theorem ce_X8_cell : CEE yX8_cell cX8_cell 12 (some .int) 3 := ⟨gdL_in 775 (by decide +kernel) (by decide +kernel), gdL_in 49 (by decide +kernel) (by decide +kernel), by decide +kernel, by decide +kernel, by decide +kernel⟩
theorem cv_X8_cell : CVI yX8_cell := ⟨gdL_in 774 (by decide +kernel) (by decide +kernel), gdL_in 35 (by decide +kernel) (by decide +kernel)⟩
theorem lk_RX8_102 : LNK RX8 102 yX8_cell := Or.inl (gdL_in 772 (by decide +kernel) (by decide +kernel))
theorem ce_X8_colourAt : CEE yX8_colourAt cX8_colourAt 4 (some .int) 3 := ⟨gdL_in 760 (by decide +kernel) (by decide +kernel), gdL_in 49 (by decide +kernel) (by decide +kernel), by decide +kernel, by decide +kernel, by decide +kernel⟩
theorem cv_X8_colourAt : CVI yX8_colourAt := ⟨gdL_in 759 (by decide +kernel) (by decide +kernel), gdL_in 32 (by decide +kernel) (by decide +kernel)⟩
theorem lk_RX8_106 : LNK RX8 106 yX8_colourAt := Or.inl (gdL_in 757 (by decide +kernel) (by decide +kernel))
theorem ce_X8_holds : CEE yX8_holds cX8_holds 7 (some .boolean) 3 := ⟨gdL_in 787 (by decide +kernel) (by decide +kernel), gdL_in 49 (by decide +kernel) (by decide +kernel), by decide +kernel, by decide +kernel, by decide +kernel⟩
theorem cv_X8_holds : CVI yX8_holds := ⟨gdL_in 786 (by decide +kernel) (by decide +kernel), gdL_in 36 (by decide +kernel) (by decide +kernel)⟩
theorem lk_RX8_109 : LNK RX8 109 yX8_holds := Or.inl (gdL_in 784 (by decide +kernel) (by decide +kernel))
theorem fk_RX8_112 : FLK RX8 112 8 6 := ⟨RX8, TX8, 29, tyX8, rfl, by decide, lay_8, tyX8_ok, nmX8, rfl, Or.inl (gdL_in 648 (by decide +kernel) (by decide +kernel))⟩
theorem fn_8_6 : FLN 8 6 .int := fun C T N h => by cases h; exact ⟨rfl, by decide +kernel⟩
theorem fk_RX8_115 : FLK RX8 115 8 10 := ⟨RX8, TX8, 29, tyX8, rfl, by decide, lay_8, tyX8_ok, nmX8, rfl, Or.inl (gdL_in 652 (by decide +kernel) (by decide +kernel))⟩
theorem fn_8_10 : FLN 8 10 .int := fun C T N h => by cases h; exact ⟨rfl, by decide +kernel⟩
theorem ce_X8_isRoom : CEE yX8_isRoom cX8_isRoom 1 (some .boolean) 1 := ⟨gdL_in 806 (by decide +kernel) (by decide +kernel), gdL_in 49 (by decide +kernel) (by decide +kernel), by decide +kernel, by decide +kernel, by decide +kernel⟩
theorem cs_X8_isRoom : CST yX8_isRoom := gdL_in 805 (by decide +kernel) (by decide +kernel)
theorem lk_RX8_118 : LNK RX8 118 yX8_isRoom := Or.inl (gdL_in 804 (by decide +kernel) (by decide +kernel))
theorem ce_X8_isHung : CEE yX8_isHung cX8_isHung 2 (some .boolean) 1 := ⟨gdL_in 810 (by decide +kernel) (by decide +kernel), gdL_in 49 (by decide +kernel) (by decide +kernel), by decide +kernel, by decide +kernel, by decide +kernel⟩
theorem cv_X8_isHung : CVI yX8_isHung := ⟨gdL_in 809 (by decide +kernel) (by decide +kernel), gdL_in 37 (by decide +kernel) (by decide +kernel)⟩
theorem lk_RX8_121 : LNK RX8 121 yX8_isHung := Or.inl (gdL_in 807 (by decide +kernel) (by decide +kernel))
theorem fk_RX8_127 : FLK RX8 127 8 23 := ⟨RX8, TX8, 29, tyX8, rfl, by decide, lay_8, tyX8_ok, nmX8, rfl, Or.inl (gdL_in 665 (by decide +kernel) (by decide +kernel))⟩
theorem fn_8_23 : FLN 8 23 .int := fun C T N h => by cases h; exact ⟨rfl, by decide +kernel⟩
theorem fk_RX8_130 : FLK RX8 130 8 24 := ⟨RX8, TX8, 29, tyX8, rfl, by decide, lay_8, tyX8_ok, nmX8, rfl, Or.inl (gdL_in 666 (by decide +kernel) (by decide +kernel))⟩
theorem fn_8_24 : FLN 8 24 .int := fun C T N h => by cases h; exact ⟨rfl, by decide +kernel⟩
theorem fk_RX8_133 : FLK RX8 133 8 25 := ⟨RX8, TX8, 29, tyX8, rfl, by decide, lay_8, tyX8_ok, nmX8, rfl, Or.inl (gdL_in 667 (by decide +kernel) (by decide +kernel))⟩
theorem fn_8_25 : FLN 8 25 .int := fun C T N h => by cases h; exact ⟨rfl, by decide +kernel⟩
theorem ce_X8_rowsOfLot : CEE yX8_rowsOfLot cX8_rowsOfLot 2 (some .int) 1 := ⟨gdL_in 818 (by decide +kernel) (by decide +kernel), gdL_in 49 (by decide +kernel) (by decide +kernel), by decide +kernel, by decide +kernel, by decide +kernel⟩
theorem cv_X8_rowsOfLot : CVI yX8_rowsOfLot := ⟨gdL_in 817 (by decide +kernel) (by decide +kernel), gdL_in 38 (by decide +kernel) (by decide +kernel)⟩
theorem lk_RX8_124 : LNK RX8 124 yX8_rowsOfLot := Or.inl (gdL_in 815 (by decide +kernel) (by decide +kernel))
theorem ce_X8_give : CEE yX8_give cX8_give 9 (some .boolean) 4 := ⟨gdL_in 826 (by decide +kernel) (by decide +kernel), gdL_in 49 (by decide +kernel) (by decide +kernel), by decide +kernel, by decide +kernel, by decide +kernel⟩
theorem cv_X8_give : CVI yX8_give := ⟨gdL_in 825 (by decide +kernel) (by decide +kernel), gdL_in 40 (by decide +kernel) (by decide +kernel)⟩
theorem lk_RX8_136 : LNK RX8 136 yX8_give := Or.inl (gdL_in 823 (by decide +kernel) (by decide +kernel))
theorem ce_X8_cutAll : CEE yX8_cutAll cX8_cutAll 8 (some .int) 4 := ⟨gdL_in 822 (by decide +kernel) (by decide +kernel), gdL_in 49 (by decide +kernel) (by decide +kernel), by decide +kernel, by decide +kernel, by decide +kernel⟩
theorem cv_X8_cutAll : CVI yX8_cutAll := ⟨gdL_in 821 (by decide +kernel) (by decide +kernel), gdL_in 39 (by decide +kernel) (by decide +kernel)⟩
theorem lk_RX8_140 : LNK RX8 140 yX8_cutAll := Or.inl (gdL_in 819 (by decide +kernel) (by decide +kernel))
theorem ce_X8_keep : CEE yX8_keep cX8_keep 3 none 1 := ⟨gdL_in 830 (by decide +kernel) (by decide +kernel), gdL_in 49 (by decide +kernel) (by decide +kernel), by decide +kernel, by decide +kernel, by decide +kernel⟩
theorem cv_X8_keep : CVI yX8_keep := ⟨gdL_in 829 (by decide +kernel) (by decide +kernel), gdL_in 41 (by decide +kernel) (by decide +kernel)⟩
theorem lk_RX8_144 : LNK RX8 144 yX8_keep := Or.inl (gdL_in 827 (by decide +kernel) (by decide +kernel))
theorem fk_RX8_148 : FLK RX8 148 8 28 := ⟨RX8, TX8, 29, tyX8, rfl, by decide, lay_8, tyX8_ok, nmX8, rfl, Or.inl (gdL_in 670 (by decide +kernel) (by decide +kernel))⟩
theorem fn_8_28 : FLN 8 28 .int := fun C T N h => by cases h; exact ⟨rfl, by decide +kernel⟩
theorem ce_X8_lose : CEE yX8_lose cX8_lose 2 none 1 := ⟨gdL_in 842 (by decide +kernel) (by decide +kernel), gdL_in 49 (by decide +kernel) (by decide +kernel), by decide +kernel, by decide +kernel, by decide +kernel⟩
theorem cv_X8_lose : CVI yX8_lose := ⟨gdL_in 841 (by decide +kernel) (by decide +kernel), gdL_in 43 (by decide +kernel) (by decide +kernel)⟩
theorem lk_RX8_155 : LNK RX8 155 yX8_lose := Or.inl (gdL_in 839 (by decide +kernel) (by decide +kernel))
theorem ce_X8_isWall : CEE yX8_isWall cX8_isWall 3 (some .boolean) 2 := ⟨gdL_in 838 (by decide +kernel) (by decide +kernel), gdL_in 49 (by decide +kernel) (by decide +kernel), by decide +kernel, by decide +kernel, by decide +kernel⟩
theorem cv_X8_isWall : CVI yX8_isWall := ⟨gdL_in 837 (by decide +kernel) (by decide +kernel), gdL_in 42 (by decide +kernel) (by decide +kernel)⟩
theorem lk_RX8_151 : LNK RX8 151 yX8_isWall := Or.inl (gdL_in 835 (by decide +kernel) (by decide +kernel))
theorem ce_X8_sum : CEE yX8_sum cX8_sum 5 (some .int) 2 := ⟨gdL_in 854 (by decide +kernel) (by decide +kernel), gdL_in 49 (by decide +kernel) (by decide +kernel), by decide +kernel, by decide +kernel, by decide +kernel⟩
theorem cv_X8_sum : CVI yX8_sum := ⟨gdL_in 853 (by decide +kernel) (by decide +kernel), gdL_in 44 (by decide +kernel) (by decide +kernel)⟩
theorem lk_RX8_158 : LNK RX8 158 yX8_sum := Or.inl (gdL_in 851 (by decide +kernel) (by decide +kernel))
