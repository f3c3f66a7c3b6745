/-! the words that the places of the code need -/
def strL : List (String × Nat × String) := [(RX7, 263, "an argument is out of range"), (RX7, 40, "a motif for QUARTER is square"), (RX7, 51, "no more patterns"), (RX7, 249, "no such pattern"), (RX7, 72, "no such cell of the motif"), (RX7, 96, "the round does not hold the repeat"), (RX7, 101, "no more rollers"), (RX7, 251, "no such roller"), (RX7, 117, "no more lots"), (RX7, 253, "no such lot"), (RX7, 142, "no such number of a lot"), (RX7, 255, "no such room"), (RX7, 152, "the room is hung"), (RX7, 157, "no more walls"), (RX7, 162, "the room has no wall"), (RX7, 168, "the lot has too few rolls"), (RX7, 261, "no such wall"), (RX7, 182, "the room is bare"), (RX7, 189, "the wall would be too long"), (RX7, 223, "no such number of a room"), (RX7, 229, "no such drop"), (RX7, 244, "no such cell of the wall")]
theorem oi_RX2_3 : Cond.methodLink RX2 3 objectInit ∈ gdL := gdL_in 74 (by decide +kernel) (by decide +kernel)
theorem oi_i : Cond.instanceMethod objectInit ∈ gdL := gdL_in 52 (by decide +kernel) (by decide +kernel)
theorem oi_c : Cond.code objectInit ⟨#[0xb1]⟩ 1 none ∈ gdL := gdL_in 53 (by decide +kernel) (by decide +kernel)
theorem ac_int : Cond.arrayClass .int ∈ gdL := gdL_in 98 (by decide +kernel) (by decide +kernel)
theorem lay_2 : ∀ w ∈ u_ws RX2 TX2 6, w ∈ gdL := by
  intro w hw
  refine List.mem_filter.mpr ?_
  have h := List.all_eq_true.mp (show (u_ws RX2 TX2 6).all (fun w => decide (w ∈ lw_tbl) && goodWord w) = true by decide +kernel) w hw
  simpa using h
theorem fk_RX2_9 : FLK RX2 9 2 0 := ⟨RX2, TX2, 6, tyX2, rfl, by decide, lay_2, tyX2_ok, nmX2, rfl, Or.inl (gdL_in 75 (by decide +kernel) (by decide +kernel))⟩
theorem ff_2_0 : FLF RX2 2 0 (.array .int) := fun C T N h => by cases h; exact ⟨rfl, by decide +kernel, rfl⟩
theorem oi_RX5_3 : Cond.methodLink RX5 3 objectInit ∈ gdL := gdL_in 66 (by decide +kernel) (by decide +kernel)
theorem cl_RX5_9 : Cond.classLink RX5 9 RX6 ∈ gdL := gdL_in 67 (by decide +kernel) (by decide +kernel)
theorem lay_5 : ∀ w ∈ u_ws RX5 TX5 5, w ∈ gdL := by
  intro w hw
  refine List.mem_filter.mpr ?_
  have h := List.all_eq_true.mp (show (u_ws RX5 TX5 5).all (fun w => decide (w ∈ lw_tbl) && goodWord w) = true by decide +kernel) w hw
  simpa using h
theorem fk_RX5_11 : FLK RX5 11 5 0 := ⟨RX5, TX5, 5, tyX5, rfl, by decide, lay_5, tyX5_ok, nmX5, rfl, Or.inl (gdL_in 99 (by decide +kernel) (by decide +kernel))⟩
theorem ff_5_0 : FLF RX5 5 0 (.array (.object "RollerLeaf$Wall")) := fun C T N h => by cases h; exact ⟨rfl, by decide +kernel, rfl⟩
theorem nw_2 : NWO 2 RX2 6 [.null, .int 0, .int 0, .int 0, .int 0, .int 0] := ⟨TX2, tyX2, rfl, lay_2, tyX2_ok, fun j hj => by rcases (show j = 0 ∨ j = 1 ∨ j = 2 ∨ j = 3 ∨ j = 4 ∨ j = 5 by omega) with rfl | rfl | rfl | rfl | rfl | rfl <;> rfl, gdL_in 70 (by decide +kernel) (by decide +kernel), gdL_in 33 (by decide +kernel) (by decide +kernel)⟩
theorem cl_RX5_17 : Cond.classLink RX5 17 RX2 ∈ gdL := gdL_in 69 (by decide +kernel) (by decide +kernel)
theorem ce_X2_init : CEE yX2_init cX2_init 1 none 0 := ⟨gdL_in 73 (by decide +kernel) (by decide +kernel), gdL_in 33 (by decide +kernel) (by decide +kernel), by decide +kernel, by decide +kernel, by decide +kernel⟩
theorem ci_X2_init : CIN yX2_init := ⟨gdL_in 72 (by decide +kernel) (by decide +kernel), rfl⟩
theorem lk_RX5_19 : LNK RX5 19 yX2_init := Or.inr ⟨RX7, ngL_in 71 (by decide +kernel) (by decide +kernel)⟩
theorem fk_RX5_20 : FLK RX5 20 5 1 := ⟨RX5, TX5, 5, tyX5, rfl, by decide, lay_5, tyX5_ok, nmX5, rfl, Or.inl (gdL_in 101 (by decide +kernel) (by decide +kernel))⟩
theorem ff_5_1 : FLF RX5 5 1 (.object "RollerLeaf$OpenedRolls") := fun C T N h => by cases h; exact ⟨rfl, by decide +kernel, rfl⟩
theorem lay_7 : ∀ w ∈ u_ws RX7 TX7 8, w ∈ gdL := by
  intro w hw
  refine List.mem_filter.mpr ?_
  have h := List.all_eq_true.mp (show (u_ws RX7 TX7 8).all (fun w => decide (w ∈ lw_tbl) && goodWord w) = true by decide +kernel) w hw
  simpa using h
theorem fk_RX7_29 : FLK RX7 29 7 6 := ⟨RX7, TX7, 8, tyX7, rfl, by decide, lay_7, tyX7_ok, nmX7, rfl, Or.inl (gdL_in 126 (by decide +kernel) (by decide +kernel))⟩
theorem nw_5 : NWO 5 RX5 5 [.null, .null, .int 0, .null, .int 0] := ⟨TX5, tyX5, rfl, lay_5, tyX5_ok, fun j hj => by rcases (show j = 0 ∨ j = 1 ∨ j = 2 ∨ j = 3 ∨ j = 4 by omega) with rfl | rfl | rfl | rfl | rfl <;> rfl, gdL_in 62 (by decide +kernel) (by decide +kernel), gdL_in 32 (by decide +kernel) (by decide +kernel)⟩
theorem cl_RX7_27 : Cond.classLink RX7 27 RX5 ∈ gdL := gdL_in 60 (by decide +kernel) (by decide +kernel)
theorem ce_X5_init : CEE yX5_init cX5_init 1 none 0 := ⟨gdL_in 65 (by decide +kernel) (by decide +kernel), gdL_in 32 (by decide +kernel) (by decide +kernel), by decide +kernel, by decide +kernel, by decide +kernel⟩
theorem ci_X5_init : CIN yX5_init := ⟨gdL_in 64 (by decide +kernel) (by decide +kernel), rfl⟩
theorem lk_RX7_33 : LNK RX7 33 yX5_init := Or.inr ⟨RX7, ngL_in 63 (by decide +kernel) (by decide +kernel)⟩
theorem oi_RX7_3 : Cond.methodLink RX7 3 objectInit ∈ gdL := gdL_in 51 (by decide +kernel) (by decide +kernel)
theorem cl_RX7_9 : Cond.classLink RX7 9 RX3 ∈ gdL := gdL_in 54 (by decide +kernel) (by decide +kernel)
theorem fk_RX7_11 : FLK RX7 11 7 0 := ⟨RX7, TX7, 8, tyX7, rfl, by decide, lay_7, tyX7_ok, nmX7, rfl, Or.inl (gdL_in 120 (by decide +kernel) (by decide +kernel))⟩
theorem ff_7_0 : FLF RX7 7 0 (.array (.object "RollerLeaf$Pattern")) := fun C T N h => by cases h; exact ⟨rfl, by decide +kernel, rfl⟩
theorem cl_RX7_15 : Cond.classLink RX7 15 RX4 ∈ gdL := gdL_in 56 (by decide +kernel) (by decide +kernel)
theorem fk_RX7_17 : FLK RX7 17 7 2 := ⟨RX7, TX7, 8, tyX7, rfl, by decide, lay_7, tyX7_ok, nmX7, rfl, Or.inl (gdL_in 122 (by decide +kernel) (by decide +kernel))⟩
theorem ff_7_2 : FLF RX7 7 2 (.array (.object "RollerLeaf$Roller")) := fun C T N h => by cases h; exact ⟨rfl, by decide +kernel, rfl⟩
theorem cl_RX7_21 : Cond.classLink RX7 21 RX1 ∈ gdL := gdL_in 58 (by decide +kernel) (by decide +kernel)
theorem fk_RX7_23 : FLK RX7 23 7 4 := ⟨RX7, TX7, 8, tyX7, rfl, by decide, lay_7, tyX7_ok, nmX7, rfl, Or.inl (gdL_in 124 (by decide +kernel) (by decide +kernel))⟩
theorem ff_7_4 : FLF RX7 7 4 (.array (.object "RollerLeaf$Lot")) := fun C T N h => by cases h; exact ⟨rfl, by decide +kernel, rfl⟩
theorem ff_7_6 : FLF RX7 7 6 (.array (.object "RollerLeaf$Room")) := fun C T N h => by cases h; exact ⟨rfl, by decide +kernel, rfl⟩
theorem th_RX7_38_42 : THW RX7 38 42 "java/lang/IllegalArgumentException" ["java/lang/RuntimeException", "java/lang/Exception"] := ⟨by decide +kernel, by decide +kernel, gdL_in 166 (by decide +kernel) (by decide +kernel), gdL_in 37 (by decide +kernel) (by decide +kernel), by
  intro w hw
  have h := List.all_eq_true.mp (show (vx_atS RX7 42 "java/lang/IllegalArgumentException" ["java/lang/RuntimeException", "java/lang/Exception"]).all (fun w => decide (w ∈ lw_tbl) && (goodWord w || ngW w)) = true by decide +kernel) w hw
  simp only [Bool.and_eq_true, Bool.or_eq_true, decide_eq_true_eq] at h
  exact h.2.elim (fun q => Or.inl (List.mem_filter.mpr ⟨h.1, q⟩)) (fun q => Or.inr (List.mem_filter.mpr ⟨h.1, q⟩)), by decide +kernel⟩
theorem st_RX7_263 : (RX7, 263, "an argument is out of range") ∈ strL := List.mem_of_getElem? (i := 0) rfl
theorem oi_RX0_3 : Cond.methodLink RX0 3 objectInit ∈ gdL := gdL_in 261 (by decide +kernel) (by decide +kernel)
theorem lay_0 : ∀ w ∈ u_ws RX0 TX0 3, w ∈ gdL := by
  intro w hw
  refine List.mem_filter.mpr ?_
  have h := List.all_eq_true.mp (show (u_ws RX0 TX0 3).all (fun w => decide (w ∈ lw_tbl) && goodWord w) = true by decide +kernel) w hw
  simpa using h
theorem fk_RX0_9 : FLK RX0 9 0 2 := ⟨RX0, TX0, 3, tyX0, rfl, by decide, lay_0, tyX0_ok, nmX0, rfl, Or.inl (gdL_in 269 (by decide +kernel) (by decide +kernel))⟩
theorem ff_0_2 : FLF RX0 0 2 (.array .int) := fun C T N h => by cases h; exact ⟨rfl, by decide +kernel, rfl⟩
theorem fk_RX0_15 : FLK RX0 15 0 0 := ⟨RX0, TX0, 3, tyX0, rfl, by decide, lay_0, tyX0_ok, nmX0, rfl, Or.inl (gdL_in 262 (by decide +kernel) (by decide +kernel))⟩
theorem ff_0_0 : FLF RX0 0 0 .int := fun C T N h => by cases h; exact ⟨rfl, by decide +kernel, rfl⟩
theorem fk_RX0_19 : FLK RX0 19 0 1 := ⟨RX0, TX0, 3, tyX0, rfl, by decide, lay_0, tyX0_ok, nmX0, rfl, Or.inl (gdL_in 265 (by decide +kernel) (by decide +kernel))⟩
theorem ff_0_1 : FLF RX0 0 1 .int := fun C T N h => by cases h; exact ⟨rfl, by decide +kernel, rfl⟩
theorem lay_3 : ∀ w ∈ u_ws RX3 TX3 4, w ∈ gdL := by
  intro w hw
  refine List.mem_filter.mpr ?_
  have h := List.all_eq_true.mp (show (u_ws RX3 TX3 4).all (fun w => decide (w ∈ lw_tbl) && goodWord w) = true by decide +kernel) w hw
  simpa using h
theorem fk_RX3_24 : FLK RX3 24 3 2 := ⟨RX3, TX3, 4, tyX3, rfl, by decide, lay_3, tyX3_ok, nmX3, rfl, Or.inl (gdL_in 280 (by decide +kernel) (by decide +kernel))⟩
theorem ff_3_2 : FLF RX3 3 2 .int := fun C T N h => by cases h; exact ⟨rfl, by decide +kernel, rfl⟩
theorem fk_RX3_27 : FLK RX3 27 3 3 := ⟨RX3, TX3, 4, tyX3, rfl, by decide, lay_3, tyX3_ok, nmX3, rfl, Or.inl (gdL_in 282 (by decide +kernel) (by decide +kernel))⟩
theorem ff_3_3 : FLF RX3 3 3 .int := fun C T N h => by cases h; exact ⟨rfl, by decide +kernel, rfl⟩
theorem oi_RX3_3 : Cond.methodLink RX3 3 objectInit ∈ gdL := gdL_in 255 (by decide +kernel) (by decide +kernel)
theorem nw_0 : NWO 0 RX0 3 [.int 0, .int 0, .null] := ⟨TX0, tyX0, rfl, lay_0, tyX0_ok, fun j hj => by rcases (show j = 0 ∨ j = 1 ∨ j = 2 by omega) with rfl | rfl | rfl <;> rfl, gdL_in 257 (by decide +kernel) (by decide +kernel), gdL_in 40 (by decide +kernel) (by decide +kernel)⟩
theorem cl_RX3_9 : Cond.classLink RX3 9 RX0 ∈ gdL := gdL_in 256 (by decide +kernel) (by decide +kernel)
theorem ce_X0_init : CEE yX0_init cX0_init 3 none 2 := ⟨gdL_in 260 (by decide +kernel) (by decide +kernel), gdL_in 40 (by decide +kernel) (by decide +kernel), by decide +kernel, by decide +kernel, by decide +kernel⟩
theorem ci_X0_init : CIN yX0_init := ⟨gdL_in 259 (by decide +kernel) (by decide +kernel), rfl⟩
theorem lk_RX3_11 : LNK RX3 11 yX0_init := Or.inr ⟨RX7, ngL_in 258 (by decide +kernel) (by decide +kernel)⟩
theorem fk_RX3_14 : FLK RX3 14 3 0 := ⟨RX3, TX3, 4, tyX3, rfl, by decide, lay_3, tyX3_ok, nmX3, rfl, Or.inl (gdL_in 277 (by decide +kernel) (by decide +kernel))⟩
theorem ff_3_0 : FLF RX3 3 0 (.object "RollerLeaf$Cells") := fun C T N h => by cases h; exact ⟨rfl, by decide +kernel, rfl⟩
theorem fk_RX3_20 : FLK RX3 20 3 1 := ⟨RX3, TX3, 4, tyX3, rfl, by decide, lay_3, tyX3_ok, nmX3, rfl, Or.inl (gdL_in 279 (by decide +kernel) (by decide +kernel))⟩
theorem ff_3_1 : FLF RX3 3 1 .int := fun C T N h => by cases h; exact ⟨rfl, by decide +kernel, rfl⟩
theorem th_RX7_49_53 : THW RX7 49 53 "java/lang/IllegalStateException" ["java/lang/RuntimeException", "java/lang/Exception"] := ⟨by decide +kernel, by decide +kernel, gdL_in 235 (by decide +kernel) (by decide +kernel), gdL_in 38 (by decide +kernel) (by decide +kernel), by
  intro w hw
  have h := List.all_eq_true.mp (show (vx_atS RX7 53 "java/lang/IllegalStateException" ["java/lang/RuntimeException", "java/lang/Exception"]).all (fun w => decide (w ∈ lw_tbl) && (goodWord w || ngW w)) = true by decide +kernel) w hw
  simp only [Bool.and_eq_true, Bool.or_eq_true, decide_eq_true_eq] at h
  exact h.2.elim (fun q => Or.inl (List.mem_filter.mpr ⟨h.1, q⟩)) (fun q => Or.inr (List.mem_filter.mpr ⟨h.1, q⟩)), by decide +kernel⟩
theorem st_RX7_51 : (RX7, 51, "no more patterns") ∈ strL := List.mem_of_getElem? (i := 2) rfl
theorem fk_RX7_45 : FLK RX7 45 7 1 := ⟨RX7, TX7, 8, tyX7, rfl, by decide, lay_7, tyX7_ok, nmX7, rfl, Or.inl (gdL_in 121 (by decide +kernel) (by decide +kernel))⟩
theorem nw_3 : NWO 3 RX3 4 [.null, .int 0, .int 0, .int 0] := ⟨TX3, tyX3, rfl, lay_3, tyX3_ok, fun j hj => by rcases (show j = 0 ∨ j = 1 ∨ j = 2 ∨ j = 3 by omega) with rfl | rfl | rfl | rfl <;> rfl, gdL_in 251 (by decide +kernel) (by decide +kernel), gdL_in 39 (by decide +kernel) (by decide +kernel)⟩
theorem ce_X3_init : CEE yX3_init cX3_init 6 none 3 := ⟨gdL_in 254 (by decide +kernel) (by decide +kernel), gdL_in 39 (by decide +kernel) (by decide +kernel), by decide +kernel, by decide +kernel, by decide +kernel⟩
theorem ci_X3_init : CIN yX3_init := ⟨gdL_in 253 (by decide +kernel) (by decide +kernel), rfl⟩
theorem lk_RX7_54 : LNK RX7 54 yX3_init := Or.inr ⟨RX7, ngL_in 252 (by decide +kernel) (by decide +kernel)⟩
theorem fn_7_1 : FLN 7 1 .int := fun C T N h => by cases h; exact ⟨rfl, by decide +kernel⟩
theorem ce_X7_requireWithin : CEE yX7_requireWithin cX7_requireWithin 3 none 3 := ⟨gdL_in 165 (by decide +kernel) (by decide +kernel), gdL_in 31 (by decide +kernel) (by decide +kernel), by decide +kernel, by decide +kernel, by decide +kernel⟩
theorem cs_X7_requireWithin : CST yX7_requireWithin := gdL_in 164 (by decide +kernel) (by decide +kernel)
theorem lk_RX7_34 : LNK RX7 34 yX7_requireWithin := Or.inl (gdL_in 163 (by decide +kernel) (by decide +kernel))
theorem st_RX7_40 : (RX7, 40, "a motif for QUARTER is square") ∈ strL := List.mem_of_getElem? (i := 1) rfl
theorem th_RX7_70_74 : THW RX7 70 74 "java/lang/IndexOutOfBoundsException" ["java/lang/RuntimeException", "java/lang/Exception"] := ⟨by decide +kernel, by decide +kernel, gdL_in 307 (by decide +kernel) (by decide +kernel), gdL_in 41 (by decide +kernel) (by decide +kernel), by
  intro w hw
  have h := List.all_eq_true.mp (show (vx_atS RX7 74 "java/lang/IndexOutOfBoundsException" ["java/lang/RuntimeException", "java/lang/Exception"]).all (fun w => decide (w ∈ lw_tbl) && (goodWord w || ngW w)) = true by decide +kernel) w hw
  simp only [Bool.and_eq_true, Bool.or_eq_true, decide_eq_true_eq] at h
  exact h.2.elim (fun q => Or.inl (List.mem_filter.mpr ⟨h.1, q⟩)) (fun q => Or.inr (List.mem_filter.mpr ⟨h.1, q⟩)), by decide +kernel⟩
theorem st_RX7_249 : (RX7, 249, "no such pattern") ∈ strL := List.mem_of_getElem? (i := 3) rfl
theorem ce_X7_wrapped : CEE yX7_wrapped cX7_wrapped 3 (some .int) 2 := ⟨gdL_in 338 (by decide +kernel) (by decide +kernel), gdL_in 31 (by decide +kernel) (by decide +kernel), by decide +kernel, by decide +kernel, by decide +kernel⟩
theorem cs_X7_wrapped : CST yX7_wrapped := gdL_in 337 (by decide +kernel) (by decide +kernel)
theorem lk_RX0_26 : LNK RX0 26 yX7_wrapped := Or.inr ⟨RX7, ngL_in 336 (by decide +kernel) (by decide +kernel)⟩
theorem ce_X0_place : CEE yX0_place cX0_place 3 (some .int) 2 := ⟨gdL_in 335 (by decide +kernel) (by decide +kernel), gdL_in 40 (by decide +kernel) (by decide +kernel), by decide +kernel, by decide +kernel, by decide +kernel⟩
theorem cv_X0_place : CVI yX0_place := ⟨gdL_in 334 (by decide +kernel) (by decide +kernel), gdL_in 4 (by decide +kernel) (by decide +kernel)⟩
theorem lk_RX0_22 : LNK RX0 22 yX0_place := Or.inl (gdL_in 332 (by decide +kernel) (by decide +kernel))
theorem ce_X7_patternAt : CEE yX7_patternAt cX7_patternAt 3 (some (.object "RollerLeaf$Pattern")) 1 := ⟨gdL_in 306 (by decide +kernel) (by decide +kernel), gdL_in 31 (by decide +kernel) (by decide +kernel), by decide +kernel, by decide +kernel, by decide +kernel⟩
theorem cv_X7_patternAt : CVI yX7_patternAt := ⟨gdL_in 305 (by decide +kernel) (by decide +kernel), gdL_in 1 (by decide +kernel) (by decide +kernel)⟩
theorem lk_RX7_56 : LNK RX7 56 yX7_patternAt := Or.inl (gdL_in 303 (by decide +kernel) (by decide +kernel))
theorem fk_RX7_60 : FLK RX7 60 3 0 := ⟨RX3, TX3, 4, tyX3, rfl, by decide, lay_3, tyX3_ok, nmX3, rfl, Or.inr ⟨RX7, ngL_in 278 (by decide +kernel) (by decide +kernel)⟩⟩
theorem ce_X0_holds : CEE yX0_holds cX0_holds 3 (some .boolean) 2 := ⟨gdL_in 326 (by decide +kernel) (by decide +kernel), gdL_in 40 (by decide +kernel) (by decide +kernel), by decide +kernel, by decide +kernel, by decide +kernel⟩
theorem cv_X0_holds : CVI yX0_holds := ⟨gdL_in 325 (by decide +kernel) (by decide +kernel), gdL_in 2 (by decide +kernel) (by decide +kernel)⟩
theorem lk_RX7_64 : LNK RX7 64 yX0_holds := Or.inr ⟨RX7, ngL_in 323 (by decide +kernel) (by decide +kernel)⟩
theorem ce_X0_colourAt : CEE yX0_colourAt cX0_colourAt 4 (some .int) 2 := ⟨gdL_in 331 (by decide +kernel) (by decide +kernel), gdL_in 40 (by decide +kernel) (by decide +kernel), by decide +kernel, by decide +kernel, by decide +kernel⟩
theorem cv_X0_colourAt : CVI yX0_colourAt := ⟨gdL_in 330 (by decide +kernel) (by decide +kernel), gdL_in 3 (by decide +kernel) (by decide +kernel)⟩
theorem lk_RX7_75 : LNK RX7 75 yX0_colourAt := Or.inr ⟨RX7, ngL_in 328 (by decide +kernel) (by decide +kernel)⟩
theorem ce_X0_put : CEE yX0_put cX0_put 5 none 3 := ⟨gdL_in 342 (by decide +kernel) (by decide +kernel), gdL_in 40 (by decide +kernel) (by decide +kernel), by decide +kernel, by decide +kernel, by decide +kernel⟩
theorem cv_X0_put : CVI yX0_put := ⟨gdL_in 341 (by decide +kernel) (by decide +kernel), gdL_in 5 (by decide +kernel) (by decide +kernel)⟩
theorem lk_RX7_79 : LNK RX7 79 yX0_put := Or.inr ⟨RX7, ngL_in 339 (by decide +kernel) (by decide +kernel)⟩
theorem st_RX7_72 : (RX7, 72, "no such cell of the motif") ∈ strL := List.mem_of_getElem? (i := 4) rfl
theorem lk_RX3_47 : LNK RX3 47 yX0_colourAt := Or.inr ⟨RX7, ngL_in 364 (by decide +kernel) (by decide +kernel)⟩
theorem ce_X3_flipsRows : CEE yX3_flipsRows cX3_flipsRows 3 (some .boolean) 2 := ⟨gdL_in 363 (by decide +kernel) (by decide +kernel), gdL_in 39 (by decide +kernel) (by decide +kernel), by decide +kernel, by decide +kernel, by decide +kernel⟩
theorem cv_X3_flipsRows : CVI yX3_flipsRows := ⟨gdL_in 362 (by decide +kernel) (by decide +kernel), gdL_in 8 (by decide +kernel) (by decide +kernel)⟩
theorem lk_RX3_44 : LNK RX3 44 yX3_flipsRows := Or.inl (gdL_in 360 (by decide +kernel) (by decide +kernel))
theorem fk_RX3_37 : FLK RX3 37 0 1 := ⟨RX0, TX0, 3, tyX0, rfl, by decide, lay_0, tyX0_ok, nmX0, rfl, Or.inr ⟨RX7, ngL_in 267 (by decide +kernel) (by decide +kernel)⟩⟩
theorem ce_X3_flipsColumns : CEE yX3_flipsColumns cX3_flipsColumns 3 (some .boolean) 2 := ⟨gdL_in 359 (by decide +kernel) (by decide +kernel), gdL_in 39 (by decide +kernel) (by decide +kernel), by decide +kernel, by decide +kernel, by decide +kernel⟩
theorem cv_X3_flipsColumns : CVI yX3_flipsColumns := ⟨gdL_in 358 (by decide +kernel) (by decide +kernel), gdL_in 7 (by decide +kernel) (by decide +kernel)⟩
theorem lk_RX3_40 : LNK RX3 40 yX3_flipsColumns := Or.inl (gdL_in 356 (by decide +kernel) (by decide +kernel))
theorem fk_RX3_34 : FLK RX3 34 0 0 := ⟨RX0, TX0, 3, tyX0, rfl, by decide, lay_0, tyX0_ok, nmX0, rfl, Or.inr ⟨RX7, ngL_in 263 (by decide +kernel) (by decide +kernel)⟩⟩
theorem lk_RX3_30 : LNK RX3 30 yX7_wrapped := Or.inr ⟨RX7, ngL_in 355 (by decide +kernel) (by decide +kernel)⟩
theorem ce_X3_colourAt : CEE yX3_colourAt cX3_colourAt 8 (some .int) 2 := ⟨gdL_in 354 (by decide +kernel) (by decide +kernel), gdL_in 39 (by decide +kernel) (by decide +kernel), by decide +kernel, by decide +kernel, by decide +kernel⟩
theorem cv_X3_colourAt : CVI yX3_colourAt := ⟨gdL_in 353 (by decide +kernel) (by decide +kernel), gdL_in 6 (by decide +kernel) (by decide +kernel)⟩
theorem lk_RX7_82 : LNK RX7 82 yX3_colourAt := Or.inr ⟨RX7, ngL_in 351 (by decide +kernel) (by decide +kernel)⟩
theorem fk_RX7_86 : FLK RX7 86 3 2 := ⟨RX3, TX3, 4, tyX3, rfl, by decide, lay_3, tyX3_ok, nmX3, rfl, Or.inr ⟨RX7, ngL_in 281 (by decide +kernel) (by decide +kernel)⟩⟩
theorem fk_RX7_83 : FLK RX7 83 3 3 := ⟨RX3, TX3, 4, tyX3, rfl, by decide, lay_3, tyX3_ok, nmX3, rfl, Or.inr ⟨RX7, ngL_in 283 (by decide +kernel) (by decide +kernel)⟩⟩
theorem lk_RX3_54 : LNK RX3 54 yX3_colourAt := Or.inl (gdL_in 387 (by decide +kernel) (by decide +kernel))
theorem ce_X3_staysWhenMoved : CEE yX3_staysWhenMoved cX3_staysWhenMoved 5 (some .boolean) 2 := ⟨gdL_in 614 (by decide +kernel) (by decide +kernel), gdL_in 39 (by decide +kernel) (by decide +kernel), by decide +kernel, by decide +kernel, by decide +kernel⟩
theorem cv_X3_staysWhenMoved : CVI yX3_staysWhenMoved := ⟨gdL_in 613 (by decide +kernel) (by decide +kernel), gdL_in 29 (by decide +kernel) (by decide +kernel)⟩
theorem lk_RX3_50 : LNK RX3 50 yX3_staysWhenMoved := Or.inl (gdL_in 611 (by decide +kernel) (by decide +kernel))
theorem ce_X3_leastMove : CEE yX3_leastMove cX3_leastMove 4 (some .int) 1 := ⟨gdL_in 610 (by decide +kernel) (by decide +kernel), gdL_in 39 (by decide +kernel) (by decide +kernel), by decide +kernel, by decide +kernel, by decide +kernel⟩
theorem cv_X3_leastMove : CVI yX3_leastMove := ⟨gdL_in 609 (by decide +kernel) (by decide +kernel), gdL_in 28 (by decide +kernel) (by decide +kernel)⟩
theorem lk_RX7_89 : LNK RX7 89 yX3_leastMove := Or.inr ⟨RX7, ngL_in 607 (by decide +kernel) (by decide +kernel)⟩
theorem lk_RX3_55 : LNK RX3 55 yX0_put := Or.inr ⟨RX7, ngL_in 388 (by decide +kernel) (by decide +kernel)⟩
theorem oi_RX4_1 : Cond.methodLink RX4 1 objectInit ∈ gdL := gdL_in 392 (by decide +kernel) (by decide +kernel)
theorem lay_4 : ∀ w ∈ u_ws RX4 TX4 2, w ∈ gdL := by
  intro w hw
  refine List.mem_filter.mpr ?_
  have h := List.all_eq_true.mp (show (u_ws RX4 TX4 2).all (fun w => decide (w ∈ lw_tbl) && goodWord w) = true by decide +kernel) w hw
  simpa using h
theorem fk_RX4_7 : FLK RX4 7 4 0 := ⟨RX4, TX4, 2, tyX4, rfl, by decide, lay_4, tyX4_ok, nmX4, rfl, Or.inl (gdL_in 393 (by decide +kernel) (by decide +kernel))⟩
theorem ff_4_0 : FLF RX4 4 0 .int := fun C T N h => by cases h; exact ⟨rfl, by decide +kernel, rfl⟩
theorem fk_RX4_13 : FLK RX4 13 4 1 := ⟨RX4, TX4, 2, tyX4, rfl, by decide, lay_4, tyX4_ok, nmX4, rfl, Or.inl (gdL_in 395 (by decide +kernel) (by decide +kernel))⟩
theorem ff_4_1 : FLF RX4 4 1 (.object "RollerLeaf$Cells") := fun C T N h => by cases h; exact ⟨rfl, by decide +kernel, rfl⟩
theorem st_RX7_101 : (RX7, 101, "no more rollers") ∈ strL := List.mem_of_getElem? (i := 6) rfl
theorem lk_RX7_93 : LNK RX7 93 yX7_wrapped := Or.inl (gdL_in 379 (by decide +kernel) (by decide +kernel))
theorem fk_RX7_98 : FLK RX7 98 7 3 := ⟨RX7, TX7, 8, tyX7, rfl, by decide, lay_7, tyX7_ok, nmX7, rfl, Or.inl (gdL_in 123 (by decide +kernel) (by decide +kernel))⟩
theorem nw_4 : NWO 4 RX4 2 [.int 0, .null] := ⟨TX4, tyX4, rfl, lay_4, tyX4_ok, fun j hj => by rcases (show j = 0 ∨ j = 1 by omega) with rfl | rfl <;> rfl, gdL_in 382 (by decide +kernel) (by decide +kernel), gdL_in 42 (by decide +kernel) (by decide +kernel)⟩
theorem ce_X3_drawn : CEE yX3_drawn cX3_drawn 4 (some (.object "RollerLeaf$Cells")) 0 := ⟨gdL_in 386 (by decide +kernel) (by decide +kernel), gdL_in 39 (by decide +kernel) (by decide +kernel), by decide +kernel, by decide +kernel, by decide +kernel⟩
theorem cv_X3_drawn : CVI yX3_drawn := ⟨gdL_in 385 (by decide +kernel) (by decide +kernel), gdL_in 9 (by decide +kernel) (by decide +kernel)⟩
theorem lk_RX7_103 : LNK RX7 103 yX3_drawn := Or.inr ⟨RX7, ngL_in 383 (by decide +kernel) (by decide +kernel)⟩
theorem ce_X4_init : CEE yX4_init cX4_init 3 none 2 := ⟨gdL_in 391 (by decide +kernel) (by decide +kernel), gdL_in 42 (by decide +kernel) (by decide +kernel), by decide +kernel, by decide +kernel, by decide +kernel⟩
theorem ci_X4_init : CIN yX4_init := ⟨gdL_in 390 (by decide +kernel) (by decide +kernel), rfl⟩
theorem lk_RX7_107 : LNK RX7 107 yX4_init := Or.inr ⟨RX7, ngL_in 389 (by decide +kernel) (by decide +kernel)⟩
theorem fn_7_3 : FLN 7 3 .int := fun C T N h => by cases h; exact ⟨rfl, by decide +kernel⟩
theorem st_RX7_96 : (RX7, 96, "the round does not hold the repeat") ∈ strL := List.mem_of_getElem? (i := 5) rfl
theorem st_RX7_251 : (RX7, 251, "no such roller") ∈ strL := List.mem_of_getElem? (i := 7) rfl
theorem oi_RX1_1 : Cond.methodLink RX1 1 objectInit ∈ gdL := gdL_in 421 (by decide +kernel) (by decide +kernel)
theorem lay_1 : ∀ w ∈ u_ws RX1 TX1 5, w ∈ gdL := by
  intro w hw
  refine List.mem_filter.mpr ?_
  have h := List.all_eq_true.mp (show (u_ws RX1 TX1 5).all (fun w => decide (w ∈ lw_tbl) && goodWord w) = true by decide +kernel) w hw
  simpa using h
theorem fk_RX1_7 : FLK RX1 7 1 0 := ⟨RX1, TX1, 5, tyX1, rfl, by decide, lay_1, tyX1_ok, nmX1, rfl, Or.inl (gdL_in 422 (by decide +kernel) (by decide +kernel))⟩
theorem ff_1_0 : FLF RX1 1 0 (.object "RollerLeaf$Roller") := fun C T N h => by cases h; exact ⟨rfl, by decide +kernel, rfl⟩
theorem fk_RX1_13 : FLK RX1 13 1 1 := ⟨RX1, TX1, 5, tyX1, rfl, by decide, lay_1, tyX1_ok, nmX1, rfl, Or.inl (gdL_in 426 (by decide +kernel) (by decide +kernel))⟩
theorem ff_1_1 : FLF RX1 1 1 .int := fun C T N h => by cases h; exact ⟨rfl, by decide +kernel, rfl⟩
theorem fk_RX1_17 : FLK RX1 17 1 2 := ⟨RX1, TX1, 5, tyX1, rfl, by decide, lay_1, tyX1_ok, nmX1, rfl, Or.inl (gdL_in 428 (by decide +kernel) (by decide +kernel))⟩
theorem ff_1_2 : FLF RX1 1 2 .int := fun C T N h => by cases h; exact ⟨rfl, by decide +kernel, rfl⟩
theorem fk_RX1_20 : FLK RX1 20 1 4 := ⟨RX1, TX1, 5, tyX1, rfl, by decide, lay_1, tyX1_ok, nmX1, rfl, Or.inl (gdL_in 434 (by decide +kernel) (by decide +kernel))⟩
theorem fn_1_4 : FLN 1 4 .int := fun C T N h => by cases h; exact ⟨rfl, by decide +kernel⟩
theorem fk_RX1_23 : FLK RX1 23 1 3 := ⟨RX1, TX1, 5, tyX1, rfl, by decide, lay_1, tyX1_ok, nmX1, rfl, Or.inl (gdL_in 430 (by decide +kernel) (by decide +kernel))⟩
theorem ff_1_3 : FLF RX1 1 3 .int := fun C T N h => by cases h; exact ⟨rfl, by decide +kernel, rfl⟩
theorem st_RX7_117 : (RX7, 117, "no more lots") ∈ strL := List.mem_of_getElem? (i := 8) rfl
theorem ce_X7_rollerAt : CEE yX7_rollerAt cX7_rollerAt 3 (some (.object "RollerLeaf$Roller")) 1 := ⟨gdL_in 414 (by decide +kernel) (by decide +kernel), gdL_in 31 (by decide +kernel) (by decide +kernel), by decide +kernel, by decide +kernel, by decide +kernel⟩
theorem cv_X7_rollerAt : CVI yX7_rollerAt := ⟨gdL_in 413 (by decide +kernel) (by decide +kernel), gdL_in 10 (by decide +kernel) (by decide +kernel)⟩
theorem lk_RX7_110 : LNK RX7 110 yX7_rollerAt := Or.inl (gdL_in 411 (by decide +kernel) (by decide +kernel))
theorem fk_RX7_114 : FLK RX7 114 7 5 := ⟨RX7, TX7, 8, tyX7, rfl, by decide, lay_7, tyX7_ok, nmX7, rfl, Or.inl (gdL_in 125 (by decide +kernel) (by decide +kernel))⟩
theorem nw_1 : NWO 1 RX1 5 [.null, .int 0, .int 0, .int 0, .int 0] := ⟨TX1, tyX1, rfl, lay_1, tyX1_ok, fun j hj => by rcases (show j = 0 ∨ j = 1 ∨ j = 2 ∨ j = 3 ∨ j = 4 by omega) with rfl | rfl | rfl | rfl | rfl <;> rfl, gdL_in 417 (by decide +kernel) (by decide +kernel), gdL_in 43 (by decide +kernel) (by decide +kernel)⟩
theorem ce_X1_init : CEE yX1_init cX1_init 6 none 5 := ⟨gdL_in 420 (by decide +kernel) (by decide +kernel), gdL_in 43 (by decide +kernel) (by decide +kernel), by decide +kernel, by decide +kernel, by decide +kernel⟩
theorem ci_X1_init : CIN yX1_init := ⟨gdL_in 419 (by decide +kernel) (by decide +kernel), rfl⟩
theorem lk_RX7_119 : LNK RX7 119 yX1_init := Or.inr ⟨RX7, ngL_in 418 (by decide +kernel) (by decide +kernel)⟩
theorem fn_7_5 : FLN 7 5 .int := fun C T N h => by cases h; exact ⟨rfl, by decide +kernel⟩
theorem st_RX7_253 : (RX7, 253, "no such lot") ∈ strL := List.mem_of_getElem? (i := 9) rfl
theorem fk_RX1_26 : FLK RX1 26 4 0 := ⟨RX4, TX4, 2, tyX4, rfl, by decide, lay_4, tyX4_ok, nmX4, rfl, Or.inr ⟨RX7, ngL_in 394 (by decide +kernel) (by decide +kernel)⟩⟩
theorem ce_X7_lotAt : CEE yX7_lotAt cX7_lotAt 3 (some (.object "RollerLeaf$Lot")) 1 := ⟨gdL_in 459 (by decide +kernel) (by decide +kernel), gdL_in 31 (by decide +kernel) (by decide +kernel), by decide +kernel, by decide +kernel, by decide +kernel⟩
theorem cv_X7_lotAt : CVI yX7_lotAt := ⟨gdL_in 458 (by decide +kernel) (by decide +kernel), gdL_in 11 (by decide +kernel) (by decide +kernel)⟩
theorem lk_RX7_122 : LNK RX7 122 yX7_lotAt := Or.inl (gdL_in 456 (by decide +kernel) (by decide +kernel))
theorem fk_RX7_126 : FLK RX7 126 1 1 := ⟨RX1, TX1, 5, tyX1, rfl, by decide, lay_1, tyX1_ok, nmX1, rfl, Or.inr ⟨RX7, ngL_in 427 (by decide +kernel) (by decide +kernel)⟩⟩
theorem fk_RX7_129 : FLK RX7 129 1 2 := ⟨RX1, TX1, 5, tyX1, rfl, by decide, lay_1, tyX1_ok, nmX1, rfl, Or.inr ⟨RX7, ngL_in 429 (by decide +kernel) (by decide +kernel)⟩⟩
theorem fk_RX7_132 : FLK RX7 132 1 4 := ⟨RX1, TX1, 5, tyX1, rfl, by decide, lay_1, tyX1_ok, nmX1, rfl, Or.inr ⟨RX7, ngL_in 437 (by decide +kernel) (by decide +kernel)⟩⟩
theorem fk_RX7_135 : FLK RX7 135 1 3 := ⟨RX1, TX1, 5, tyX1, rfl, by decide, lay_1, tyX1_ok, nmX1, rfl, Or.inr ⟨RX7, ngL_in 432 (by decide +kernel) (by decide +kernel)⟩⟩
theorem ce_X1_roundsOfARoll : CEE yX1_roundsOfARoll cX1_roundsOfARoll 2 (some .int) 0 := ⟨gdL_in 464 (by decide +kernel) (by decide +kernel), gdL_in 43 (by decide +kernel) (by decide +kernel), by decide +kernel, by decide +kernel, by decide +kernel⟩
theorem cv_X1_roundsOfARoll : CVI yX1_roundsOfARoll := ⟨gdL_in 463 (by decide +kernel) (by decide +kernel), gdL_in 12 (by decide +kernel) (by decide +kernel)⟩
theorem lk_RX7_138 : LNK RX7 138 yX1_roundsOfARoll := Or.inr ⟨RX7, ngL_in 461 (by decide +kernel) (by decide +kernel)⟩
theorem st_RX7_142 : (RX7, 142, "no such number of a lot") ∈ strL := List.mem_of_getElem? (i := 10) rfl
theorem st_RX7_255 : (RX7, 255, "no such room") ∈ strL := List.mem_of_getElem? (i := 11) rfl
theorem fk_RX5_24 : FLK RX5 24 5 3 := ⟨RX5, TX5, 5, tyX5, rfl, by decide, lay_5, tyX5_ok, nmX5, rfl, Or.inl (gdL_in 105 (by decide +kernel) (by decide +kernel))⟩
theorem oi_RX6_3 : Cond.methodLink RX6 3 objectInit ∈ gdL := gdL_in 491 (by decide +kernel) (by decide +kernel)
theorem lay_6 : ∀ w ∈ u_ws RX6 TX6 3, w ∈ gdL := by
  intro w hw
  refine List.mem_filter.mpr ?_
  have h := List.all_eq_true.mp (show (u_ws RX6 TX6 3).all (fun w => decide (w ∈ lw_tbl) && goodWord w) = true by decide +kernel) w hw
  simpa using h
theorem fk_RX6_9 : FLK RX6 9 6 1 := ⟨RX6, TX6, 3, tyX6, rfl, by decide, lay_6, tyX6_ok, nmX6, rfl, Or.inl (gdL_in 495 (by decide +kernel) (by decide +kernel))⟩
theorem ff_6_1 : FLF RX6 6 1 (.array .int) := fun C T N h => by cases h; exact ⟨rfl, by decide +kernel, rfl⟩
theorem fk_RX6_15 : FLK RX6 15 6 2 := ⟨RX6, TX6, 3, tyX6, rfl, by decide, lay_6, tyX6_ok, nmX6, rfl, Or.inl (gdL_in 497 (by decide +kernel) (by decide +kernel))⟩
theorem fn_6_2 : FLN 6 2 .int := fun C T N h => by cases h; exact ⟨rfl, by decide +kernel⟩
theorem fk_RX6_19 : FLK RX6 19 6 0 := ⟨RX6, TX6, 3, tyX6, rfl, by decide, lay_6, tyX6_ok, nmX6, rfl, Or.inl (gdL_in 492 (by decide +kernel) (by decide +kernel))⟩
theorem ff_6_0 : FLF RX6 6 0 .int := fun C T N h => by cases h; exact ⟨rfl, by decide +kernel, rfl⟩
theorem fk_RX5_28 : FLK RX5 28 5 2 := ⟨RX5, TX5, 5, tyX5, rfl, by decide, lay_5, tyX5_ok, nmX5, rfl, Or.inl (gdL_in 103 (by decide +kernel) (by decide +kernel))⟩
theorem nw_6 : NWO 6 RX6 3 [.int 0, .null, .int 0] := ⟨TX6, tyX6, rfl, lay_6, tyX6_ok, fun j hj => by rcases (show j = 0 ∨ j = 1 ∨ j = 2 by omega) with rfl | rfl | rfl <;> rfl, gdL_in 487 (by decide +kernel) (by decide +kernel), gdL_in 44 (by decide +kernel) (by decide +kernel)⟩
theorem ce_X6_init : CEE yX6_init cX6_init 3 none 2 := ⟨gdL_in 490 (by decide +kernel) (by decide +kernel), gdL_in 44 (by decide +kernel) (by decide +kernel), by decide +kernel, by decide +kernel, by decide +kernel⟩
theorem ci_X6_init : CIN yX6_init := ⟨gdL_in 489 (by decide +kernel) (by decide +kernel), rfl⟩
theorem lk_RX5_32 : LNK RX5 32 yX6_init := Or.inr ⟨RX7, ngL_in 488 (by decide +kernel) (by decide +kernel)⟩
theorem fn_5_2 : FLN 5 2 .int := fun C T N h => by cases h; exact ⟨rfl, by decide +kernel⟩
theorem ce_X7_roomAt : CEE yX7_roomAt cX7_roomAt 3 (some (.object "RollerLeaf$Room")) 1 := ⟨gdL_in 476 (by decide +kernel) (by decide +kernel), gdL_in 31 (by decide +kernel) (by decide +kernel), by decide +kernel, by decide +kernel, by decide +kernel⟩
theorem cv_X7_roomAt : CVI yX7_roomAt := ⟨gdL_in 475 (by decide +kernel) (by decide +kernel), gdL_in 13 (by decide +kernel) (by decide +kernel)⟩
theorem lk_RX7_144 : LNK RX7 144 yX7_roomAt := Or.inl (gdL_in 473 (by decide +kernel) (by decide +kernel))
theorem ce_X5_isHung : CEE yX5_isHung cX5_isHung 1 (some .boolean) 0 := ⟨gdL_in 481 (by decide +kernel) (by decide +kernel), gdL_in 32 (by decide +kernel) (by decide +kernel), by decide +kernel, by decide +kernel, by decide +kernel⟩
theorem cv_X5_isHung : CVI yX5_isHung := ⟨gdL_in 480 (by decide +kernel) (by decide +kernel), gdL_in 14 (by decide +kernel) (by decide +kernel)⟩
theorem lk_RX7_148 : LNK RX7 148 yX5_isHung := Or.inr ⟨RX7, ngL_in 478 (by decide +kernel) (by decide +kernel)⟩
theorem ce_X5_addWall : CEE yX5_addWall cX5_addWall 4 (some .int) 2 := ⟨gdL_in 486 (by decide +kernel) (by decide +kernel), gdL_in 32 (by decide +kernel) (by decide +kernel), by decide +kernel, by decide +kernel, by decide +kernel⟩
theorem cv_X5_addWall : CVI yX5_addWall := ⟨gdL_in 485 (by decide +kernel) (by decide +kernel), gdL_in 15 (by decide +kernel) (by decide +kernel)⟩
theorem lk_RX7_154 : LNK RX7 154 yX5_addWall := Or.inr ⟨RX7, ngL_in 483 (by decide +kernel) (by decide +kernel)⟩
theorem st_RX7_157 : (RX7, 157, "no more walls") ∈ strL := List.mem_of_getElem? (i := 13) rfl
theorem st_RX7_152 : (RX7, 152, "the room is hung") ∈ strL := List.mem_of_getElem? (i := 12) rfl
theorem fk_RX2_15 : FLK RX2 15 2 1 := ⟨RX2, TX2, 6, tyX2, rfl, by decide, lay_2, tyX2_ok, nmX2, rfl, Or.inl (gdL_in 76 (by decide +kernel) (by decide +kernel))⟩
theorem fn_2_1 : FLN 2 1 .int := fun C T N h => by cases h; exact ⟨rfl, by decide +kernel⟩
theorem fk_RX2_19 : FLK RX2 19 1 4 := ⟨RX1, TX1, 5, tyX1, rfl, by decide, lay_1, tyX1_ok, nmX1, rfl, Or.inr ⟨RX7, ngL_in 435 (by decide +kernel) (by decide +kernel)⟩⟩
theorem fk_RX2_24 : FLK RX2 24 2 2 := ⟨RX2, TX2, 6, tyX2, rfl, by decide, lay_2, tyX2_ok, nmX2, rfl, Or.inl (gdL_in 79 (by decide +kernel) (by decide +kernel))⟩
theorem fn_2_2 : FLN 2 2 .int := fun C T N h => by cases h; exact ⟨rfl, by decide +kernel⟩
theorem fk_RX2_27 : FLK RX2 27 1 3 := ⟨RX1, TX1, 5, tyX1, rfl, by decide, lay_1, tyX1_ok, nmX1, rfl, Or.inr ⟨RX7, ngL_in 431 (by decide +kernel) (by decide +kernel)⟩⟩
theorem fk_RX2_30 : FLK RX2 30 2 3 := ⟨RX2, TX2, 6, tyX2, rfl, by decide, lay_2, tyX2_ok, nmX2, rfl, Or.inl (gdL_in 81 (by decide +kernel) (by decide +kernel))⟩
theorem fn_2_3 : FLN 2 3 .int := fun C T N h => by cases h; exact ⟨rfl, by decide +kernel⟩
theorem fk_RX2_31 : FLK RX2 31 1 0 := ⟨RX1, TX1, 5, tyX1, rfl, by decide, lay_1, tyX1_ok, nmX1, rfl, Or.inr ⟨RX7, ngL_in 423 (by decide +kernel) (by decide +kernel)⟩⟩
theorem fk_RX2_35 : FLK RX2 35 4 1 := ⟨RX4, TX4, 2, tyX4, rfl, by decide, lay_4, tyX4_ok, nmX4, rfl, Or.inr ⟨RX7, ngL_in 396 (by decide +kernel) (by decide +kernel)⟩⟩
theorem fk_RX2_41 : FLK RX2 41 0 1 := ⟨RX0, TX0, 3, tyX0, rfl, by decide, lay_0, tyX0_ok, nmX0, rfl, Or.inr ⟨RX7, ngL_in 266 (by decide +kernel) (by decide +kernel)⟩⟩
theorem fk_RX2_46 : FLK RX2 46 2 4 := ⟨RX2, TX2, 6, tyX2, rfl, by decide, lay_2, tyX2_ok, nmX2, rfl, Or.inl (gdL_in 82 (by decide +kernel) (by decide +kernel))⟩
theorem fn_2_4 : FLN 2 4 .int := fun C T N h => by cases h; exact ⟨rfl, by decide +kernel⟩
theorem fk_RX2_49 : FLK RX2 49 2 5 := ⟨RX2, TX2, 6, tyX2, rfl, by decide, lay_2, tyX2_ok, nmX2, rfl, Or.inl (gdL_in 83 (by decide +kernel) (by decide +kernel))⟩
theorem fn_2_5 : FLN 2 5 .int := fun C T N h => by cases h; exact ⟨rfl, by decide +kernel⟩
theorem ce_X2_takeFromNewRoll : CEE yX2_takeFromNewRoll cX2_takeFromNewRoll 4 (some .int) 1 := ⟨gdL_in 543 (by decide +kernel) (by decide +kernel), gdL_in 33 (by decide +kernel) (by decide +kernel), by decide +kernel, by decide +kernel, by decide +kernel⟩
theorem cv_X2_takeFromNewRoll : CVI yX2_takeFromNewRoll := ⟨gdL_in 542 (by decide +kernel) (by decide +kernel), gdL_in 21 (by decide +kernel) (by decide +kernel)⟩
theorem lk_RX2_56 : LNK RX2 56 yX2_takeFromNewRoll := Or.inl (gdL_in 540 (by decide +kernel) (by decide +kernel))
theorem lk_RX2_52 : LNK RX2 52 yX7_wrapped := Or.inr ⟨RX7, ngL_in 539 (by decide +kernel) (by decide +kernel)⟩
theorem ce_X2_takeDrop : CEE yX2_takeDrop cX2_takeDrop 4 (some .int) 1 := ⟨gdL_in 538 (by decide +kernel) (by decide +kernel), gdL_in 33 (by decide +kernel) (by decide +kernel), by decide +kernel, by decide +kernel, by decide +kernel⟩
theorem cv_X2_takeDrop : CVI yX2_takeDrop := ⟨gdL_in 537 (by decide +kernel) (by decide +kernel), gdL_in 20 (by decide +kernel) (by decide +kernel)⟩
theorem lk_RX6_28 : LNK RX6 28 yX2_takeDrop := Or.inr ⟨RX7, ngL_in 535 (by decide +kernel) (by decide +kernel)⟩
theorem ce_J9_max_7cf53 : CEE yJ9_max_7cf53 cJ9_max_7cf53 2 (some .int) 2 := ⟨gdL_in 534 (by decide +kernel) (by decide +kernel), gdL_in 45 (by decide +kernel) (by decide +kernel), by decide +kernel, by decide +kernel, by decide +kernel⟩
theorem cs_J9_max_7cf53 : CST yJ9_max_7cf53 := gdL_in 533 (by decide +kernel) (by decide +kernel)
theorem lk_RX6_22 : LNK RX6 22 yJ9_max_7cf53 := Or.inl (gdL_in 532 (by decide +kernel) (by decide +kernel))
theorem ce_X6_takeDrops : CEE yX6_takeDrops cX6_takeDrops 4 (some .boolean) 2 := ⟨gdL_in 531 (by decide +kernel) (by decide +kernel), gdL_in 44 (by decide +kernel) (by decide +kernel), by decide +kernel, by decide +kernel, by decide +kernel⟩
theorem cv_X6_takeDrops : CVI yX6_takeDrops := ⟨gdL_in 530 (by decide +kernel) (by decide +kernel), gdL_in 19 (by decide +kernel) (by decide +kernel)⟩
theorem lk_RX5_63 : LNK RX5 63 yX6_takeDrops := Or.inr ⟨RX7, ngL_in 528 (by decide +kernel) (by decide +kernel)⟩
theorem ce_X2_beginAnew : CEE yX2_beginAnew cX2_beginAnew 3 none 2 := ⟨gdL_in 527 (by decide +kernel) (by decide +kernel), gdL_in 33 (by decide +kernel) (by decide +kernel), by decide +kernel, by decide +kernel, by decide +kernel⟩
theorem cv_X2_beginAnew : CVI yX2_beginAnew := ⟨gdL_in 526 (by decide +kernel) (by decide +kernel), gdL_in 18 (by decide +kernel) (by decide +kernel)⟩
theorem lk_RX5_59 : LNK RX5 59 yX2_beginAnew := Or.inr ⟨RX7, ngL_in 524 (by decide +kernel) (by decide +kernel)⟩
theorem fk_RX5_35 : FLK RX5 35 1 0 := ⟨RX1, TX1, 5, tyX1, rfl, by decide, lay_1, tyX1_ok, nmX1, rfl, Or.inr ⟨RX7, ngL_in 424 (by decide +kernel) (by decide +kernel)⟩⟩
theorem fk_RX5_41 : FLK RX5 41 4 1 := ⟨RX4, TX4, 2, tyX4, rfl, by decide, lay_4, tyX4_ok, nmX4, rfl, Or.inr ⟨RX7, ngL_in 397 (by decide +kernel) (by decide +kernel)⟩⟩
theorem fk_RX5_47 : FLK RX5 47 0 1 := ⟨RX0, TX0, 3, tyX0, rfl, by decide, lay_0, tyX0_ok, nmX0, rfl, Or.inr ⟨RX7, ngL_in 268 (by decide +kernel) (by decide +kernel)⟩⟩
theorem ce_X5_cutAll : CEE yX5_cutAll cX5_cutAll 7 (some .boolean) 2 := ⟨gdL_in 523 (by decide +kernel) (by decide +kernel), gdL_in 32 (by decide +kernel) (by decide +kernel), by decide +kernel, by decide +kernel, by decide +kernel⟩
theorem cv_X5_cutAll : CVI yX5_cutAll := ⟨gdL_in 522 (by decide +kernel) (by decide +kernel), gdL_in 17 (by decide +kernel) (by decide +kernel)⟩
theorem lk_RX5_52 : LNK RX5 52 yX5_cutAll := Or.inl (gdL_in 520 (by decide +kernel) (by decide +kernel))
theorem fk_RX5_56 : FLK RX5 56 2 1 := ⟨RX2, TX2, 6, tyX2, rfl, by decide, lay_2, tyX2_ok, nmX2, rfl, Or.inr ⟨RX7, ngL_in 77 (by decide +kernel) (by decide +kernel)⟩⟩
theorem fk_RX5_67 : FLK RX5 67 1 4 := ⟨RX1, TX1, 5, tyX1, rfl, by decide, lay_1, tyX1_ok, nmX1, rfl, Or.inr ⟨RX7, ngL_in 436 (by decide +kernel) (by decide +kernel)⟩⟩
theorem fn_5_3 : FLN 5 3 (.object "RollerLeaf$Lot") := fun C T N h => by cases h; exact ⟨rfl, by decide +kernel⟩
theorem fk_RX5_70 : FLK RX5 70 5 4 := ⟨RX5, TX5, 5, tyX5, rfl, by decide, lay_5, tyX5_ok, nmX5, rfl, Or.inl (gdL_in 107 (by decide +kernel) (by decide +kernel))⟩
theorem fn_5_4 : FLN 5 4 .int := fun C T N h => by cases h; exact ⟨rfl, by decide +kernel⟩
theorem fk_RX7_159 : FLK RX7 159 5 2 := ⟨RX5, TX5, 5, tyX5, rfl, by decide, lay_5, tyX5_ok, nmX5, rfl, Or.inr ⟨RX7, ngL_in 104 (by decide +kernel) (by decide +kernel)⟩⟩
theorem ce_X5_bestPhase : CEE yX5_bestPhase cX5_bestPhase 5 (some .int) 1 := ⟨gdL_in 519 (by decide +kernel) (by decide +kernel), gdL_in 32 (by decide +kernel) (by decide +kernel), by decide +kernel, by decide +kernel, by decide +kernel⟩
theorem cv_X5_bestPhase : CVI yX5_bestPhase := ⟨gdL_in 518 (by decide +kernel) (by decide +kernel), gdL_in 16 (by decide +kernel) (by decide +kernel)⟩
theorem lk_RX7_164 : LNK RX7 164 yX5_bestPhase := Or.inr ⟨RX7, ngL_in 516 (by decide +kernel) (by decide +kernel)⟩
theorem ce_X5_hangFrom : CEE yX5_hangFrom cX5_hangFrom 4 (some .int) 3 := ⟨gdL_in 548 (by decide +kernel) (by decide +kernel), gdL_in 32 (by decide +kernel) (by decide +kernel), by decide +kernel, by decide +kernel, by decide +kernel⟩
theorem cv_X5_hangFrom : CVI yX5_hangFrom := ⟨gdL_in 547 (by decide +kernel) (by decide +kernel), gdL_in 22 (by decide +kernel) (by decide +kernel)⟩
theorem lk_RX7_170 : LNK RX7 170 yX5_hangFrom := Or.inr ⟨RX7, ngL_in 545 (by decide +kernel) (by decide +kernel)⟩
theorem st_RX7_168 : (RX7, 168, "the lot has too few rolls") ∈ strL := List.mem_of_getElem? (i := 15) rfl
theorem st_RX7_162 : (RX7, 162, "the room has no wall") ∈ strL := List.mem_of_getElem? (i := 14) rfl
theorem st_RX7_261 : (RX7, 261, "no such wall") ∈ strL := List.mem_of_getElem? (i := 16) rfl
theorem fk_RX7_257 : FLK RX7 257 5 0 := ⟨RX5, TX5, 5, tyX5, rfl, by decide, lay_5, tyX5_ok, nmX5, rfl, Or.inr ⟨RX7, ngL_in 100 (by decide +kernel) (by decide +kernel)⟩⟩
theorem fk_RX5_73 : FLK RX5 73 6 2 := ⟨RX6, TX6, 3, tyX6, rfl, by decide, lay_6, tyX6_ok, nmX6, rfl, Or.inr ⟨RX7, ngL_in 498 (by decide +kernel) (by decide +kernel)⟩⟩
theorem fk_RX5_76 : FLK RX5 76 2 2 := ⟨RX2, TX2, 6, tyX2, rfl, by decide, lay_2, tyX2_ok, nmX2, rfl, Or.inr ⟨RX7, ngL_in 80 (by decide +kernel) (by decide +kernel)⟩⟩
theorem fk_RX7_246 : FLK RX7 246 7 7 := ⟨RX7, TX7, 8, tyX7, rfl, by decide, lay_7, tyX7_ok, nmX7, rfl, Or.inl (gdL_in 127 (by decide +kernel) (by decide +kernel))⟩
theorem fn_7_7 : FLN 7 7 .int := fun C T N h => by cases h; exact ⟨rfl, by decide +kernel⟩
theorem ce_X7_wallAt : CEE yX7_wallAt cX7_wallAt 3 (some (.object "RollerLeaf$Wall")) 2 := ⟨gdL_in 558 (by decide +kernel) (by decide +kernel), gdL_in 31 (by decide +kernel) (by decide +kernel), by decide +kernel, by decide +kernel, by decide +kernel⟩
theorem cs_X7_wallAt : CST yX7_wallAt := gdL_in 557 (by decide +kernel) (by decide +kernel)
theorem lk_RX7_174 : LNK RX7 174 yX7_wallAt := Or.inl (gdL_in 556 (by decide +kernel) (by decide +kernel))
theorem fk_RX7_178 : FLK RX7 178 5 3 := ⟨RX5, TX5, 5, tyX5, rfl, by decide, lay_5, tyX5_ok, nmX5, rfl, Or.inr ⟨RX7, ngL_in 106 (by decide +kernel) (by decide +kernel)⟩⟩
theorem st_RX7_182 : (RX7, 182, "the room is bare") ∈ strL := List.mem_of_getElem? (i := 17) rfl
theorem fk_RX7_184 : FLK RX7 184 6 2 := ⟨RX6, TX6, 3, tyX6, rfl, by decide, lay_6, tyX6_ok, nmX6, rfl, Or.inr ⟨RX7, ngL_in 499 (by decide +kernel) (by decide +kernel)⟩⟩
theorem fk_RX7_191 : FLK RX7 191 5 1 := ⟨RX5, TX5, 5, tyX5, rfl, by decide, lay_5, tyX5_ok, nmX5, rfl, Or.inr ⟨RX7, ngL_in 102 (by decide +kernel) (by decide +kernel)⟩⟩
theorem fk_RX7_195 : FLK RX7 195 2 1 := ⟨RX2, TX2, 6, tyX2, rfl, by decide, lay_2, tyX2_ok, nmX2, rfl, Or.inr ⟨RX7, ngL_in 78 (by decide +kernel) (by decide +kernel)⟩⟩
theorem ce_X5_lengthenFrom : CEE yX5_lengthenFrom cX5_lengthenFrom 7 (some .boolean) 3 := ⟨gdL_in 565 (by decide +kernel) (by decide +kernel), gdL_in 32 (by decide +kernel) (by decide +kernel), by decide +kernel, by decide +kernel, by decide +kernel⟩
theorem cv_X5_lengthenFrom : CVI yX5_lengthenFrom := ⟨gdL_in 564 (by decide +kernel) (by decide +kernel), gdL_in 23 (by decide +kernel) (by decide +kernel)⟩
theorem lk_RX7_200 : LNK RX7 200 yX5_lengthenFrom := Or.inr ⟨RX7, ngL_in 562 (by decide +kernel) (by decide +kernel)⟩
theorem ce_X7_lose : CEE yX7_lose cX7_lose 3 none 2 := ⟨gdL_in 569 (by decide +kernel) (by decide +kernel), gdL_in 31 (by decide +kernel) (by decide +kernel), by decide +kernel, by decide +kernel, by decide +kernel⟩
theorem cv_X7_lose : CVI yX7_lose := ⟨gdL_in 568 (by decide +kernel) (by decide +kernel), gdL_in 24 (by decide +kernel) (by decide +kernel)⟩
theorem lk_RX7_204 : LNK RX7 204 yX7_lose := Or.inl (gdL_in 566 (by decide +kernel) (by decide +kernel))
theorem ce_X5_makeBare : CEE yX5_makeBare cX5_makeBare 1 none 0 := ⟨gdL_in 573 (by decide +kernel) (by decide +kernel), gdL_in 32 (by decide +kernel) (by decide +kernel), by decide +kernel, by decide +kernel, by decide +kernel⟩
theorem cv_X5_makeBare : CVI yX5_makeBare := ⟨gdL_in 572 (by decide +kernel) (by decide +kernel), gdL_in 25 (by decide +kernel) (by decide +kernel)⟩
theorem lk_RX7_208 : LNK RX7 208 yX5_makeBare := Or.inr ⟨RX7, ngL_in 570 (by decide +kernel) (by decide +kernel)⟩
theorem st_RX7_189 : (RX7, 189, "the wall would be too long") ∈ strL := List.mem_of_getElem? (i := 18) rfl
theorem fk_RX5_82 : FLK RX5 82 6 0 := ⟨RX6, TX6, 3, tyX6, rfl, by decide, lay_6, tyX6_ok, nmX6, rfl, Or.inr ⟨RX7, ngL_in 493 (by decide +kernel) (by decide +kernel)⟩⟩
theorem fk_RX5_79 : FLK RX5 79 1 3 := ⟨RX1, TX1, 5, tyX1, rfl, by decide, lay_1, tyX1_ok, nmX1, rfl, Or.inr ⟨RX7, ngL_in 433 (by decide +kernel) (by decide +kernel)⟩⟩
theorem ce_X5_allDrops : CEE yX5_allDrops cX5_allDrops 6 (some .int) 0 := ⟨gdL_in 591 (by decide +kernel) (by decide +kernel), gdL_in 32 (by decide +kernel) (by decide +kernel), by decide +kernel, by decide +kernel, by decide +kernel⟩
theorem cv_X5_allDrops : CVI yX5_allDrops := ⟨gdL_in 590 (by decide +kernel) (by decide +kernel), gdL_in 26 (by decide +kernel) (by decide +kernel)⟩
theorem lk_RX7_211 : LNK RX7 211 yX5_allDrops := Or.inr ⟨RX7, ngL_in 588 (by decide +kernel) (by decide +kernel)⟩
theorem fk_RX7_214 : FLK RX7 214 5 4 := ⟨RX5, TX5, 5, tyX5, rfl, by decide, lay_5, tyX5_ok, nmX5, rfl, Or.inr ⟨RX7, ngL_in 108 (by decide +kernel) (by decide +kernel)⟩⟩
theorem fk_RX7_217 : FLK RX7 217 2 5 := ⟨RX2, TX2, 6, tyX2, rfl, by decide, lay_2, tyX2_ok, nmX2, rfl, Or.inr ⟨RX7, ngL_in 84 (by decide +kernel) (by decide +kernel)⟩⟩
theorem ce_X5_waste : CEE yX5_waste cX5_waste 6 (some .int) 0 := ⟨gdL_in 595 (by decide +kernel) (by decide +kernel), gdL_in 32 (by decide +kernel) (by decide +kernel), by decide +kernel, by decide +kernel, by decide +kernel⟩
theorem cv_X5_waste : CVI yX5_waste := ⟨gdL_in 594 (by decide +kernel) (by decide +kernel), gdL_in 27 (by decide +kernel) (by decide +kernel)⟩
theorem lk_RX7_220 : LNK RX7 220 yX5_waste := Or.inr ⟨RX7, ngL_in 592 (by decide +kernel) (by decide +kernel)⟩
theorem st_RX7_223 : (RX7, 223, "no such number of a room") ∈ strL := List.mem_of_getElem? (i := 19) rfl
theorem st_RX7_229 : (RX7, 229, "no such drop") ∈ strL := List.mem_of_getElem? (i := 20) rfl
theorem fk_RX7_225 : FLK RX7 225 6 1 := ⟨RX6, TX6, 3, tyX6, rfl, by decide, lay_6, tyX6_ok, nmX6, rfl, Or.inr ⟨RX7, ngL_in 496 (by decide +kernel) (by decide +kernel)⟩⟩
theorem st_RX7_244 : (RX7, 244, "no such cell of the wall") ∈ strL := List.mem_of_getElem? (i := 21) rfl
theorem fk_RX7_231 : FLK RX7 231 1 0 := ⟨RX1, TX1, 5, tyX1, rfl, by decide, lay_1, tyX1_ok, nmX1, rfl, Or.inr ⟨RX7, ngL_in 425 (by decide +kernel) (by decide +kernel)⟩⟩
theorem fk_RX7_235 : FLK RX7 235 4 1 := ⟨RX4, TX4, 2, tyX4, rfl, by decide, lay_4, tyX4_ok, nmX4, rfl, Or.inr ⟨RX7, ngL_in 398 (by decide +kernel) (by decide +kernel)⟩⟩
theorem fk_RX7_238 : FLK RX7 238 0 0 := ⟨RX0, TX0, 3, tyX0, rfl, by decide, lay_0, tyX0_ok, nmX0, rfl, Or.inr ⟨RX7, ngL_in 264 (by decide +kernel) (by decide +kernel)⟩⟩
theorem fk_RX7_241 : FLK RX7 241 6 0 := ⟨RX6, TX6, 3, tyX6, rfl, by decide, lay_6, tyX6_ok, nmX6, rfl, Or.inr ⟨RX7, ngL_in 494 (by decide +kernel) (by decide +kernel)⟩⟩
