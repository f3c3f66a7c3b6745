/-! the reference's pattern: columns, rows, a cell, a colour -/
def pcN (F : Nat → Nat → Int32) (w h s x y : Nat) : Int32 := F (sx w s (decide (w ≤ x)) (decide (h ≤ y)) (x % w) (y % h)) (sy h s (decide (w ≤ x)) (decide (h ≤ y)) (x % w) (y % h))
theorem wm_rc {w s : Nat} {v : Int32} (h : 0 < w) : wm v w = wm v (rcM w s) % w := by
  unfold rcM
  split
  · exact wm_same h
  · exact wm_wm2 h
theorem wm_rr {w s : Nat} {v : Int32} (h : 0 < w) : wm v w = wm v (rrM w s) % w := by
  unfold rrM
  split
  · exact wm_same h
  · exact wm_wm2 h
theorem pcol_N {f : Nat → Int32} {w h s : Nat} {x y : Int32} (hw : 0 < w) (hh : 0 < h) : pcol f w h s x y = pcN (fun a b => f (b * w + a)) w h s (wm x (rcM w s)) (wm y (rrM h s)) := by
  unfold pcol pcN
  rw [← wm_rc hw, ← wm_rr hh]
theorem pcN_congr {F G : Nat → Nat → Int32} {w h s x y : Nat} (hw : 0 < w) (hh : 0 < h) (hq : s = 5 → w = h) (hFG : ∀ a b, a < w → b < h → F a b = G a b) : pcN F w h s x y = pcN G w h s x y := hFG _ _ (sx_lt (Nat.mod_lt _ hw) (Nat.mod_lt _ hh) hq) (sy_lt (Nat.mod_lt _ hw) (Nat.mod_lt _ hh) hq)
/-- what the reference holds of a pattern i -/
def MPA (iv : IVt) (i w h s : Nat) : Prop := i < 6 ∧ iv 21 0 i = nI w ∧ iv 22 0 i = nI h ∧ iv 23 0 i = nI s ∧ 1 ≤ w ∧ w ≤ 5 ∧ 1 ≤ h ∧ h ≤ 5 ∧ s ≤ 5 ∧ (s = 5 → w = h)
section MP
variable {A : Adr} {iv : IVt} {rv : RVt} {ov : Nat → Int64} {z i w h s : Nat}
theorem cols_spec (hM : MD A rv) (hP : MPA iv i w h s) : F_X8_columns (A.1 20 0) (nI i) (z, hv A iv rv ov) = rtv (nI (rcM w s)) (z, hv A iv rv ov) := by
  obtain ⟨h1, h2, h3, h4, h5, h6, h7, h8, h9, h10⟩ := hP
  unfold F_X8_columns rcM
  simp only [mR4 hM, mR2 hM, nn_s, mA4 hM h1, mA2 hM h1, h4, h2, L2, pk_mul]
  rcases (show s = 0 ∨ s = 1 ∨ s = 2 ∨ s = 3 ∨ s = 4 ∨ s = 5 by omega) with rfl | rfl | rfl | rfl | rfl | rfl <;> rfl
theorem rows_spec (hM : MD A rv) (hP : MPA iv i w h s) : F_X8_rows (A.1 20 0) (nI i) (z, hv A iv rv ov) = rtv (nI (rrM h s)) (z, hv A iv rv ov) := by
  obtain ⟨h1, h2, h3, h4, h5, h6, h7, h8, h9, h10⟩ := hP
  unfold F_X8_rows F_X8_rows_b20 rrM
  simp only [mR4 hM, mR3 hM, nn_s, mA4 hM h1, mA3 hM h1, h4, h3, L2, pk_mul]
  rcases (show s = 0 ∨ s = 1 ∨ s = 2 ∨ s = 3 ∨ s = 4 ∨ s = 5 by omega) with rfl | rfl | rfl | rfl | rfl | rfl <;> rfl
theorem cell_spec {R L : Bool} {x y : Nat} (hM : MD A rv) (hP : MPA iv i w h s) (hx : x < w) (hy : y < h) : F_X8_cell (A.1 20 0) (nI i) (nI (if R = true then w + x else x)) (nI (if L = true then h + y else y)) (z, hv A iv rv ov) = rtv (iv 24 0 (25 * i + 5 * sy h s R L x y + sx w s R L x y)) (z, hv A iv rv ov) := by
  obtain ⟨h1, h2, h3, h4, h5, h6, h7, h8, h9, h10⟩ := hP
  have e1 : ∀ n, (nI w - 1) - nI n = nI w - 1 - nI n := fun n => rfl
  have b284 : ∀ a b, a < 5 → b < 5 → F_X8_cell_b284 (A.1 20 0) (nI i) (nI a) (nI b) (z, hv A iv rv ov) = rtv (iv 24 0 (25 * i + 5 * b + a)) (z, hv A iv rv ov) := by
    intro a b ha hb
    unfold F_X8_cell_b284
    simp only [mR5 hM, nn_s, L25, L5, pk_mul, nI_add]
    rw [mA5 hM (by omega)]
  unfold F_X8_cell
  simp only [mR2 hM, mR3 hM, nn_s, mA2 hM h1, mA3 hM h1, h2, h3]
  have k40 : F_X8_cell_b40 (A.1 20 0) (nI i) (nI (if R = true then w + x else x)) (nI (if L = true then h + y else y)) (nI w) (nI h) (bI R) (bI L) (z, hv A iv rv ov) = rtv (iv 24 0 (25 * i + 5 * sy h s R L x y + sx w s R L x y)) (z, hv A iv rv ov) := by
    have x8 : (if R = true then nI (if R = true then w + x else x) - nI w else nI (if R = true then w + x else x)) = nI x := by
      cases R
      · rfl
      · simp only [if_true]
        rw [pk_sub (by omega), Nat.add_sub_cancel_left]
    have y8 : (if L = true then nI (if L = true then h + y else y) - nI h else nI (if L = true then h + y else y)) = nI y := by
      cases L
      · rfl
      · simp only [if_true]
        rw [pk_sub (by omega), Nat.add_sub_cancel_left]
    have k70 : F_X8_cell_b70 (A.1 20 0) (nI i) (nI w) (nI h) (bI R) (bI L) (nI x) (nI y) (z, hv A iv rv ov) = rtv (iv 24 0 (25 * i + 5 * sy h s R L x y + sx w s R L x y)) (z, hv A iv rv ov) := by
      have q5 := h10
      rcases (show s = 0 ∨ s = 1 ∨ s = 2 ∨ s = 3 ∨ s = 4 ∨ s = 5 by omega) with rfl | rfl | rfl | rfl | rfl | rfl <;> cases R <;> cases L <;>
        (simp only [F_X8_cell_b70, F_X8_cell_b113, F_X8_cell_b133, F_X8_cell_b147, F_X8_cell_b162, F_X8_cell_b177, F_X8_cell_b186, F_X8_cell_b206, F_X8_cell_b226, F_X8_cell_b243, F_X8_cell_b265, F_X8_cell_b282, mR4 hM, nn_s, mA4 hM h1, h4, bI_if, nI_rev hx, nI_rev hy]
         first | exact b284 _ _ (by omega) (by omega) | (have q6 := q5 rfl; subst q6; simp only [nI_rev hx, nI_rev hy]; exact b284 _ _ (by omega) (by omega)))
    have ew : nI (w + x) - nI w = nI x := by rw [pk_sub (by omega), Nat.add_sub_cancel_left]
    have eh : nI (h + y) - nI h = nI y := by rw [pk_sub (by omega), Nat.add_sub_cancel_left]
    clear x8 y8
    revert k70
    cases R <;> cases L <;> intro k70 <;> simp only [F_X8_cell_b40, F_X8_cell_b55, bI_if, if_true, Bool.false_eq_true, if_false, ew, eh] <;> exact k70
  revert k40
  cases R <;> cases L <;> intro k40 <;> simp only [F_X8_cell_b27, if_true, Bool.false_eq_true, if_false] at k40 ⊢
  · rw [if_pos (nI_lt hx (by omega)), if_pos (nI_lt hy (by omega))]
    exact k40
  · rw [if_pos (nI_lt hx (by omega)), if_neg (nI_nlt (by omega) (by omega))]
    exact k40
  · rw [if_neg (nI_nlt (by omega) (by omega)), if_pos (nI_lt hy (by omega))]
    exact k40
  · rw [if_neg (nI_nlt (by omega) (by omega)), if_neg (nI_nlt (by omega) (by omega))]
    exact k40
/-- the reference's colour of a cell of the repeat -/
def mF (iv : IVt) (i : Nat) : Nat → Nat → Int32 := fun a b => iv 24 0 (25 * i + 5 * b + a)
theorem half_of {w s x : Nat} (hw : 1 ≤ w) (hx : x < rcM w s) : x = (if (decide (w ≤ x)) = true then w + x % w else x % w) := by
  by_cases h : w ≤ x
  · have : x < 2 * w := by
      unfold rcM at hx
      split at hx <;> omega
    rw [if_pos (decide_eq_true h), Nat.mod_eq_sub_mod h, Nat.mod_eq_of_lt (by omega)]
    omega
  · rw [if_neg (by simpa using h), Nat.mod_eq_of_lt (by omega)]
theorem half_of2 {w s x : Nat} (hw : 1 ≤ w) (hx : x < rrM w s) : x = (if (decide (w ≤ x)) = true then w + x % w else x % w) := by
  by_cases h : w ≤ x
  · have : x < 2 * w := by
      unfold rrM at hx
      split at hx <;> omega
    rw [if_pos (decide_eq_true h), Nat.mod_eq_sub_mod h, Nat.mod_eq_of_lt (by omega)]
    omega
  · rw [if_neg (by simpa using h), Nat.mod_eq_of_lt (by omega)]
theorem mcell_spec {x y : Nat} (hM : MD A rv) (hP : MPA iv i w h s) (hx : x < rcM w s) (hy : y < rrM h s) : F_X8_cell (A.1 20 0) (nI i) (nI x) (nI y) (z, hv A iv rv ov) = rtv (pcN (mF iv i) w h s x y) (z, hv A iv rv ov) := by
  obtain ⟨h1, h2, h3, h4, h5, h6, h7, h8, h9, h10⟩ := id hP
  have k := cell_spec (z := z) (ov := ov) (R := decide (w ≤ x)) (L := decide (h ≤ y)) (x := x % w) (y := y % h) hM hP (Nat.mod_lt _ h5) (Nat.mod_lt _ h7)
  rw [← half_of h5 hx, ← half_of2 h7 hy] at k
  exact k
theorem mcol_spec {x y : Int32} (hM : MD A rv) (hP : MPA iv i w h s) : F_X8_colourAt (A.1 20 0) (nI i) x y (z, hv A iv rv ov) = rtv (pcN (mF iv i) w h s (wm x (rcM w s)) (wm y (rrM h s))) (z, hv A iv rv ov) := by
  obtain ⟨h1, h2, h3, h4, h5, h6, h7, h8, h9, h10⟩ := id hP
  have c1 := rcM_pos (w := w) (s := s) h5
  have c2 := rcM_le (w := w) (s := s) h6
  have r1 := rrM_pos (w := h) (s := s) h7
  have r2 := rrM_le (w := h) (s := s) h8
  unfold F_X8_colourAt
  rw [mO hM, cols_spec hM hP, bnd_v, modu_spec c1 (by omega), bnd_v, mO hM, rows_spec hM hP, bnd_v, modu_spec r1 (by omega), bnd_v, mO hM, mcell_spec hM hP (wm_lt c1) (wm_lt r1), bnd_v]
end MP
