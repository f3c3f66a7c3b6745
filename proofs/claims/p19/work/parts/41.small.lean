/-! remainders, ranges, rectangles of colours, a pattern's colour -/
def wm (v : Int32) (M : Nat) : Nat := (v.toInt % (M : Int)).toNat
theorem wm_lt {v : Int32} {M : Nat} (h : 0 < M) : wm v M < M := by
  have h1 := Int.emod_nonneg v.toInt (show (M : Int) ≠ 0 by omega)
  have h2 := Int.emod_lt_of_pos v.toInt (show (0 : Int) < M by omega)
  unfold wm
  omega
theorem wm_nI {n M : Nat} (h : n < 2 ^ 31) : wm (nI n) M = n % M := by
  unfold wm
  rw [nI_toInt h]
  exact congrArg Int.toNat (Int.natCast_emod n M).symm
theorem wm_int {v : Int32} {M : Nat} (h : 0 < M) : ((wm v M : Nat) : Int) = v.toInt % (M : Int) := by
  have h1 := Int.emod_nonneg v.toInt (show (M : Int) ≠ 0 by omega)
  unfold wm
  omega
theorem wm_wm2 {v : Int32} {M : Nat} (h : 0 < M) : wm v M = wm v (2 * M) % M := by
  have h1 := wm_int (v := v) (M := 2 * M) (by omega)
  have h2 := wm_int (v := v) h
  have h3 : (v.toInt % ((2 * M : Nat) : Int)) % (M : Int) = v.toInt % (M : Int) := Int.emod_emod_of_dvd _ ⟨2, by push_cast; omega⟩
  have h4 : ((wm v (2 * M) % M : Nat) : Int) = (wm v M : Nat) := by
    rw [Int.natCast_emod, h1, h3, h2]
  exact (Int.ofNat_inj.mp h4).symm
theorem wm_same {v : Int32} {M : Nat} (h : 0 < M) : wm v M = wm v M % M := (Nat.mod_eq_of_lt (wm_lt h)).symm
theorem irm_wm {v : Int32} {M : Nat} (h : 0 < M) (hM : M < 2 ^ 31) : (if 0 ≤ irm v (nI M) then irm v (nI M) else irm v (nI M) + nI M) = nI (wm v M) := by
  have hm : (nI M).toInt = M := nI_toInt hM
  have ht : (irm v (nI M)).toInt = v.toInt.tmod M := by
    rw [← hm]
    exact rem_toInt v (nI M)
  obtain ⟨b1, b2⟩ := tmod_bounds (a := v.toInt) (M := (M : Int)) (by omega)
  have e : v.toInt.tmod M % (M : Int) = v.toInt % (M : Int) := by
    rw [Int.tmod_def, Int.sub_mul_emod_self_left]
  have hw := wm_int (v := v) h
  have hl := wm_lt (v := v) h
  apply Int32.toInt_inj.mp
  rw [nI_toInt (n := wm v M) (by omega), hw, ← e]
  split
  · rename_i q
    rw [Int32.le_iff_toInt_le, ht, Int32.toInt_zero] at q
    rw [ht, Int.emod_eq_of_lt q b2]
  · rename_i q
    rw [Int32.le_iff_toInt_le, ht, Int32.toInt_zero] at q
    rw [Int32.toInt_add, ht, hm, ← Int.add_emod_right, Int.emod_eq_of_lt (by omega) (by omega)]
    exact Int.bmod_eq_of_le (by omega) (by omega)
section SM
variable {A : Adr} {iv : IVt} {rv : RVt} {ov : Nat → Int64} {z T i j ci : Nat} {α : Type} {hp : hpT}
theorem wrap_spec {v : Int32} {M : Nat} (h : 0 < M) (hM : M < 2 ^ 31) : F_X7_wrapped v (nI M) hp = rtv (nI (wm v M)) hp := by
  unfold F_X7_wrapped
  have h1 : (1 : Int32) ≤ nI M := nI_le (a := 1) h hM
  rw [if_pos h1, nz_p (nI_ne0 h hM), ← irm_wm (v := v) h hM]
  split <;> rfl
def inR (x a b : Int32) : Prop := a ≤ x ∧ x ≤ b
theorem rg_of {x : Int32} {a b : Nat} (ha : a < 2 ^ 31) (hb : b < 2 ^ 31) (h : inR x (nI a) (nI b)) : ∃ n, x = nI n ∧ a ≤ n ∧ n ≤ b := by
  obtain ⟨h1, h2⟩ := h
  rw [Int32.le_iff_toInt_le, nI_toInt ha] at h1
  rw [Int32.le_iff_toInt_le, nI_toInt hb] at h2
  refine ⟨x.toInt.toNat, ?_, by omega, by omega⟩
  apply Int32.toInt_inj.mp
  rw [nI_toInt (by omega)]
  omega
theorem rg_to {n a b : Nat} (h1 : a ≤ n) (h2 : n ≤ b) (hb : b < 2 ^ 31) : inR (nI n) (nI a) (nI b) := ⟨nI_le h1 (by omega), nI_le h2 hb⟩
theorem req_in {x a b : Int32} (h : inR x a b) : F_X7_requireWithin x a b hp = rtv () hp := by
  unfold F_X7_requireWithin
  rw [if_neg (Int32.not_lt.mpr h.1), if_pos h.2]
theorem req_out {x a b : Int32} (h : ¬ inR x a b) : F_X7_requireWithin x a b hp = tht "java/lang/IllegalArgumentException" hp := by
  unfold F_X7_requireWithin F_X7_requireWithin_b10
  by_cases q : x < a
  · rw [if_pos q]
  · rw [if_neg q, if_neg (fun w => h ⟨Int32.not_lt.mp q, w⟩)]
/-- an index below n or none -/
theorem ix_cases (x : Int32) {n : Nat} (hn : n < 2 ^ 30) : (¬ inR x 0 (nI n - 1) ∧ ¬ (∃ j, j < n ∧ x = nI j) ∧ (x < 0 ∨ nI n ≤ x)) ∨ (∃ j, j < n ∧ x = nI j ∧ inR x 0 (nI n - 1) ∧ ¬ x < 0 ∧ ¬ nI n ≤ x ∧ x < nI n) := by
  have hs : (nI n - 1).toInt = (n : Int) - 1 := by
    have h := pk_sub_toInt (a := n) (b := 1) hn (by decide)
    exact h
  have key : inR x 0 (nI n - 1) ↔ (0 ≤ x.toInt ∧ x.toInt < n) := by
    unfold inR
    rw [Int32.le_iff_toInt_le, Int32.le_iff_toInt_le, hs, Int32.toInt_zero]
    omega
  rcases pk_ix x (n := n) (by omega) with h | h | ⟨j, hj, rfl⟩
  · refine Or.inl ⟨?_, ?_, Or.inl h⟩
    · rw [key]
      rw [Int32.lt_iff_toInt_lt, Int32.toInt_zero] at h
      omega
    · rintro ⟨j, hj, rfl⟩
      exact nI_pos (by omega) h
  · refine Or.inl ⟨?_, ?_, Or.inr h⟩
    · rw [key]
      rw [Int32.le_iff_toInt_le, nI_toInt (by omega)] at h
      omega
    · rintro ⟨j, hj, rfl⟩
      exact nI_ge hj (by omega) h
  · refine Or.inr ⟨j, hj, rfl, ?_, nI_pos (by omega), nI_ge hj (by omega), nI_lt hj (by omega)⟩
    rw [key, nI_toInt (by omega)]
    omega
/-! a rectangle of colours: its object, its array -/
def CEL (A : Adr) (iv : IVt) (rv : RVt) (T U i c r : Nat) : Prop := A.2.2 T i = true ∧ A.2.2 U i = true ∧ kc T = 0 ∧ kc U = 10 ∧ kn U = 100 ∧ rv T i 2 = some (U, i) ∧ iv T i 0 = nI c ∧ iv T i 1 = nI r ∧ 1 ≤ c ∧ c ≤ 10 ∧ 1 ≤ r ∧ r ≤ 10
theorem idx_lt {c r x y : Nat} (hx : x < c) (hy : y < r) (hc : c ≤ 10) (hr : r ≤ 10) : y * c + x < 100 := by
  have h1 : y * c + c ≤ r * c := by
    have := Nat.mul_le_mul_right c (show y + 1 ≤ r from hy)
    rwa [Nat.succ_mul] at this
  have h2 : r * c ≤ 10 * 10 := Nat.mul_le_mul hr hc
  omega
theorem place_spec {U c r : Nat} {x y : Int32} (hA : IN A) (h : CEL A iv rv T U i c r) : F_X0_place (A.1 T i) x y (z, hv A iv rv ov) = rtv (nI (wm y r * c + wm x c)) (z, hv A iv rv ov) := by
  obtain ⟨h1, h2, h3, h4, h5, h6, h7, h8, h9, h10, h11, h12⟩ := h
  unfold F_X0_place
  rw [gfI_hv hA h1 h3 (by decide) rfl, h8, wrap_spec (by omega) (by omega), bnd_v, gfI_hv hA h1 h3 (by decide) rfl, gfI_hv hA h1 h3 (by decide) rfl, h7, wrap_spec (by omega) (by omega), bnd_v, pk_mul, nI_add]
theorem cat_spec {U c r : Nat} {x y : Int32} (hA : IN A) (h : CEL A iv rv T U i c r) : F_X0_colourAt (A.1 T i) x y (z, hv A iv rv ov) = rtv (iv U i (wm y r * c + wm x c)) (z, hv A iv rv ov) := by
  unfold F_X0_colourAt
  have hp := place_spec (z := z) (ov := ov) (x := x) (y := y) hA h
  obtain ⟨h1, h2, h3, h4, h5, h6, h7, h8, h9, h10, h11, h12⟩ := h
  have hlt : wm y r * c + wm x c < 100 := idx_lt (wm_lt (by omega)) (wm_lt (by omega)) h10 h12
  rw [isO_hv hA h1 h3 (by decide), hp, bnd_v, if_neg (nI_pos (by omega)), gfR_hv hA h1 h3 (by decide) rfl, h6, rfv_s, nn_s, alen_I hA h2 h4, h5, if_pos (nI_lt hlt (by decide)), gfR_hv hA h1 h3 (by decide) rfl, h6, rfv_s, nn_s, ald_hv hA h2 h4 (by omega)]
theorem put_spec {U c r : Nat} {x y v : Int32} (hA : IN A) (h : CEL A iv rv T U i c r) : F_X0_put (A.1 T i) x y v (z, hv A iv rv ov) = rtv () (z, hv A (u3 iv U i (wm y r * c + wm x c) v) rv ov) := by
  unfold F_X0_put
  have hp := place_spec (z := z) (ov := ov) (x := x) (y := y) hA h
  obtain ⟨h1, h2, h3, h4, h5, h6, h7, h8, h9, h10, h11, h12⟩ := h
  have hlt : wm y r * c + wm x c < 100 := idx_lt (wm_lt (by omega)) (wm_lt (by omega)) h10 h12
  rw [isO_hv hA h1 h3 (by decide), hp, bnd_v, if_neg (nI_pos (by omega)), gfR_hv hA h1 h3 (by decide) rfl, h6, rfv_s, nn_s, alen_I hA h2 h4, h5, if_neg (nI_ge hlt (by decide)), gfR_hv hA h1 h3 (by decide) rfl, h6, rfv_s, nn_s, ast_hv hA h2 h4 (by omega)]
/-! a pattern: width w, height h, symmetry s -/
def rcM (w s : Nat) : Nat := if s = 0 ∨ s = 1 then w else 2 * w
def rrM (h s : Nat) : Nat := if s = 0 ∨ s = 2 ∨ s = 3 then h else 2 * h
/-- where a cell of the repeat lies in the motif: R right half, L lower half, x and y in the quarter -/
def sx (w s : Nat) (R L : Bool) (x y : Nat) : Nat := if s = 1 then (if L then w - 1 - x else x) else if s = 2 ∨ s = 4 then (if R then w - 1 - x else x) else if s = 5 then (if R then (if L then w - 1 - x else y) else if L then w - 1 - y else x) else x
def sy (h s : Nat) (R L : Bool) (x y : Nat) : Nat := if s = 1 ∨ s = 4 then (if L then h - 1 - y else y) else if s = 3 then (if R then h - 1 - y else y) else if s = 5 then (if R then (if L then h - 1 - y else h - 1 - x) else if L then x else y) else y
theorem sx_lt {w h s : Nat} {R L : Bool} {x y : Nat} (hx : x < w) (hy : y < h) (hq : s = 5 → w = h) : sx w s R L x y < w := by
  unfold sx
  by_cases h5 : s = 5
  · have := hq h5
    subst h5 this
    cases R <;> cases L <;> simp <;> omega
  · cases R <;> cases L <;> simp only [h5, if_true, if_false, Bool.false_eq_true] <;> repeat' split
    all_goals omega
theorem sy_lt {w h s : Nat} {R L : Bool} {x y : Nat} (hx : x < w) (hy : y < h) (hq : s = 5 → w = h) : sy h s R L x y < h := by
  unfold sy
  by_cases h5 : s = 5
  · have := hq h5
    subst h5 this
    cases R <;> cases L <;> simp <;> omega
  · cases R <;> cases L <;> simp only [h5, if_true, if_false, Bool.false_eq_true] <;> repeat' split
    all_goals omega
/-- the colour at any cell, by the array of the motif -/
def pcol (f : Nat → Int32) (w h s : Nat) (x y : Int32) : Int32 :=
  let R := decide (w ≤ wm x (rcM w s))
  let L := decide (h ≤ wm y (rrM h s))
  f (sy h s R L (wm x w) (wm y h) * w + sx w s R L (wm x w) (wm y h))
def PAT (A : Adr) (iv : IVt) (rv : RVt) (i w h s : Nat) : Prop := A.2.2 5 i = true ∧ CEL A iv rv 6 7 i w h ∧ rv 5 i 0 = some (6, i) ∧ iv 5 i 1 = nI s ∧ iv 5 i 2 = nI (rcM w s) ∧ iv 5 i 3 = nI (rrM h s) ∧ w ≤ 5 ∧ h ≤ 5 ∧ s ≤ 5 ∧ (s = 5 → w = h)
def bI (b : Bool) : Int32 := if b then 1 else 0
theorem flipC_spec {s : Nat} {R L : Bool} (hA : IN A) (h1 : A.2.2 5 i = true) (h2 : iv 5 i 1 = nI s) (hs : s ≤ 5) : F_X3_flipsColumns (A.1 5 i) (bI R) (bI L) (z, hv A iv rv ov) = rtv (bI (if s = 1 ∨ s = 5 then L else if s = 2 ∨ s = 4 then R else false)) (z, hv A iv rv ov) := by
  unfold F_X3_flipsColumns
  rw [gfI_hv hA h1 (by rfl) (by decide) rfl, h2]
  rcases (show s = 0 ∨ s = 1 ∨ s = 2 ∨ s = 3 ∨ s = 4 ∨ s = 5 by omega) with rfl | rfl | rfl | rfl | rfl | rfl <;> cases R <;> cases L <;> rfl
theorem flipR_spec {s : Nat} {R L : Bool} (hA : IN A) (h1 : A.2.2 5 i = true) (h2 : iv 5 i 1 = nI s) (hs : s ≤ 5) : F_X3_flipsRows (A.1 5 i) (bI R) (bI L) (z, hv A iv rv ov) = rtv (bI (if s = 1 ∨ s = 4 then L else if s = 3 ∨ s = 5 then R else false)) (z, hv A iv rv ov) := by
  unfold F_X3_flipsRows
  rw [gfI_hv hA h1 (by rfl) (by decide) rfl, h2]
  rcases (show s = 0 ∨ s = 1 ∨ s = 2 ∨ s = 3 ∨ s = 4 ∨ s = 5 by omega) with rfl | rfl | rfl | rfl | rfl | rfl <;> cases R <;> cases L <;> rfl
end SM
