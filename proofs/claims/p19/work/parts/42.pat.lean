/-! a pattern's colour at any cell -/
theorem bI_if {α : Type} {b : Bool} {X Y : α} : (if bI b = 0 then X else Y) = if b = true then Y else X := by cases b <;> rfl
theorem wm_small {n M : Nat} (h : n < M) (hM : M < 2 ^ 31) : wm (nI n) M = n := by
  rw [wm_nI (by omega), Nat.mod_eq_of_lt h]
theorem nI_rev {w c : Nat} (h : c < w) : (nI w - 1) - nI c = nI (w - 1 - c) := by
  rw [show (1 : Int32) = nI 1 from rfl, pk_sub (by omega), pk_sub (by omega)]
theorem rcM_pos {w s : Nat} (h : 1 ≤ w) : 1 ≤ rcM w s := by
  unfold rcM
  split <;> omega
theorem rcM_le {w s : Nat} (h : w ≤ 5) : rcM w s ≤ 10 := by
  unfold rcM
  split <;> omega
theorem rrM_pos {w s : Nat} (h : 1 ≤ w) : 1 ≤ rrM w s := by
  unfold rrM
  split <;> omega
theorem rrM_le {w s : Nat} (h : w ≤ 5) : rrM w s ≤ 10 := by
  unfold rrM
  split <;> omega
section PT
variable {A : Adr} {iv : IVt} {rv : RVt} {ov : Nat → Int64} {z i w h s : Nat}
theorem pc149 {c r : Nat} (hA : IN A) (hP : PAT A iv rv i w h s) (hc : c < w) (hr : r < h) : F_X3_colourAt_b149 (A.1 5 i) (nI c) (nI r) (z, hv A iv rv ov) = rtv (iv 7 i (r * w + c)) (z, hv A iv rv ov) := by
  obtain ⟨h1, h2, h3, h4, h5, h6, h7, h8, h9, h10⟩ := hP
  have hs := cat_spec (z := z) (ov := ov) (x := nI c) (y := nI r) hA h2
  rw [wm_small hc (by omega), wm_small hr (by omega)] at hs
  unfold F_X3_colourAt_b149
  rw [gfR_hv hA h1 (by rfl) (by decide) rfl, h3, rfv_s, nn_s, isO_hv hA h2.1 (by rfl) (by decide), hs, bnd_v]
theorem pc125 {R L : Bool} {c r : Nat} (hA : IN A) (hP : PAT A iv rv i w h s) (hc : c < w) (hr : r < h) : F_X3_colourAt_b125 (A.1 5 i) (bI R) (bI L) (nI c) (nI r) (z, hv A iv rv ov) = rtv (iv 7 i ((if (if s = 1 ∨ s = 4 then L else if s = 3 ∨ s = 5 then R else false) = true then h - 1 - r else r) * w + c)) (z, hv A iv rv ov) := by
  obtain ⟨h1, h2, h3, h4, h5, h6, h7, h8, h9, h10⟩ := id hP
  obtain ⟨g1, g2, g3, g4, g5, g6, g7, g8, g9, g10, g11, g12⟩ := id h2
  unfold F_X3_colourAt_b125
  rw [isO_hv hA h1 (by rfl) (by decide), flipR_spec hA h1 h4 h9, bnd_v, bI_if]
  generalize (if s = 1 ∨ s = 4 then L else if s = 3 ∨ s = 5 then R else false) = b
  cases b with
  | false => rw [if_neg (by decide), if_neg (by decide), pc149 hA hP hc hr]
  | true => rw [if_pos rfl, if_pos rfl, gfR_hv hA h1 (by rfl) (by decide) rfl, h3, rfv_s, nn_s, gfI_hv hA g1 (by rfl) (by decide) rfl, g8, nI_rev hr, pc149 hA hP hc (by omega)]
theorem pc101 {R L : Bool} {c r : Nat} (hA : IN A) (hP : PAT A iv rv i w h s) (hc : c < w) (hr : r < h) : F_X3_colourAt_b101 (A.1 5 i) (bI R) (bI L) (nI c) (nI r) (z, hv A iv rv ov) = rtv (iv 7 i ((if (if s = 1 ∨ s = 4 then L else if s = 3 ∨ s = 5 then R else false) = true then h - 1 - r else r) * w + (if (if s = 1 ∨ s = 5 then L else if s = 2 ∨ s = 4 then R else false) = true then w - 1 - c else c))) (z, hv A iv rv ov) := by
  obtain ⟨h1, h2, h3, h4, h5, h6, h7, h8, h9, h10⟩ := id hP
  obtain ⟨g1, g2, g3, g4, g5, g6, g7, g8, g9, g10, g11, g12⟩ := id h2
  unfold F_X3_colourAt_b101
  rw [isO_hv hA h1 (by rfl) (by decide), flipC_spec hA h1 h4 h9, bnd_v, bI_if]
  generalize (if s = 1 ∨ s = 5 then L else if s = 2 ∨ s = 4 then R else false) = b
  cases b with
  | false => simp only [Bool.false_eq_true, if_false, pc125 hA hP hc hr]
  | true =>
    rw [if_pos rfl, if_pos (c := (true = true)) rfl, gfR_hv hA h1 (by rfl) (by decide) rfl, h3, rfv_s, nn_s, gfI_hv hA g1 (by rfl) (by decide) rfl, g7, nI_rev hc, pc125 hA hP (by omega) hr]
theorem pc47 {R L : Bool} {x y : Int32} (hA : IN A) (hP : PAT A iv rv i w h s) : F_X3_colourAt_b47 (A.1 5 i) x y (bI R) (bI L) (z, hv A iv rv ov) = rtv (iv 7 i (sy h s R L (wm x w) (wm y h) * w + sx w s R L (wm x w) (wm y h))) (z, hv A iv rv ov) := by
  obtain ⟨h1, h2, h3, h4, h5, h6, h7, h8, h9, h10⟩ := id hP
  obtain ⟨g1, g2, g3, g4, g5, g6, g7, g8, g9, g10, g11, g12⟩ := id h2
  have lx := wm_lt (v := x) (M := w) (by omega)
  have ly := wm_lt (v := y) (M := h) (by omega)
  unfold F_X3_colourAt_b47
  rw [gfR_hv hA h1 (by rfl) (by decide) rfl, h3, rfv_s, nn_s, gfI_hv hA g1 (by rfl) (by decide) rfl, g7, wrap_spec (by omega) (by omega), bnd_v, gfR_hv hA h1 (by rfl) (by decide) rfl, h3, rfv_s, nn_s, gfI_hv hA g1 (by rfl) (by decide) rfl, g8, wrap_spec (by omega) (by omega), bnd_v, gfI_hv hA h1 (by rfl) (by decide) rfl, h4]
  generalize wm x w = c at lx ⊢
  generalize wm y h = r at ly ⊢
  by_cases q5 : s = 5
  · have q6 := h10 q5
    rw [if_pos (show nI s = 5 by rw [q5]; rfl), pc101 hA hP lx ly, pc101 hA hP (by omega) (by omega)]
    subst q5 q6
    cases R <;> cases L <;> rfl
  · rw [if_neg (show ¬ nI s = 5 from fun q => q5 ((nI_eq (b := 5) (by omega) (by decide)).mp q)), pc101 hA hP lx ly]
    unfold sx sy
    rcases (show s = 0 ∨ s = 1 ∨ s = 2 ∨ s = 3 ∨ s = 4 by omega) with rfl | rfl | rfl | rfl | rfl <;> cases R <;> cases L <;> rfl
theorem pc_spec {x y : Int32} (hA : IN A) (hP : PAT A iv rv i w h s) : F_X3_colourAt (A.1 5 i) x y (z, hv A iv rv ov) = rtv (pcol (iv 7 i) w h s x y) (z, hv A iv rv ov) := by
  obtain ⟨h1, h2, h3, h4, h5, h6, h7, h8, h9, h10⟩ := id hP
  obtain ⟨g1, g2, g3, g4, g5, g6, g7, g8, g9, g10, g11, g12⟩ := id h2
  have c1 := rcM_pos (w := w) (s := s) g9
  have c2 := rcM_le (w := w) (s := s) h7
  have r1 := rrM_pos (w := h) (s := s) g11
  have r2 := rrM_le (w := h) (s := s) h8
  have k23 : ∀ R : Bool, F_X3_colourAt_b23 (A.1 5 i) x y (bI R) (z, hv A iv rv ov) = rtv (iv 7 i (sy h s R (decide (h ≤ wm y (rrM h s))) (wm x w) (wm y h) * w + sx w s R (decide (h ≤ wm y (rrM h s))) (wm x w) (wm y h))) (z, hv A iv rv ov) := by
    intro R
    have ly := wm_lt (v := y) (M := rrM h s) r1
    unfold F_X3_colourAt_b23
    rw [gfI_hv hA h1 (by rfl) (by decide) rfl, h6, wrap_spec r1 (by omega), bnd_v, gfR_hv hA h1 (by rfl) (by decide) rfl, h3, rfv_s, nn_s, gfI_hv hA g1 (by rfl) (by decide) rfl, g8]
    by_cases q : h ≤ wm y (rrM h s)
    · rw [if_neg (nI_nlt q (by omega)), decide_eq_true q]
      exact pc47 (L := true) hA hP
    · rw [if_pos (nI_lt (by omega) (by omega)), decide_eq_false q]
      exact pc47 (L := false) hA hP
  have lx := wm_lt (v := x) (M := rcM w s) c1
  unfold F_X3_colourAt pcol
  rw [gfI_hv hA h1 (by rfl) (by decide) rfl, h5, wrap_spec c1 (by omega), bnd_v, gfR_hv hA h1 (by rfl) (by decide) rfl, h3, rfv_s, nn_s, gfI_hv hA g1 (by rfl) (by decide) rfl, g7]
  by_cases q : w ≤ wm x (rcM w s)
  · rw [if_neg (nI_nlt q (by omega)), decide_eq_true q]
    exact k23 true
  · rw [if_pos (nI_lt (by omega) (by omega)), decide_eq_false q]
    exact k23 false
end PT
