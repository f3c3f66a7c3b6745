/-! a pattern's colour by the cell of the repeat -/
def pcN (F : Nat → Nat → Int32) (w h s x y : Nat) : Int32 := F (sx w s (decide (w ≤ x)) (decide (h ≤ y)) (x % w) (y % h)) (sy h s (decide (w ≤ x)) (decide (h ≤ y)) (x % w) (y % h))
theorem wm_rc {w s : Nat} {v : Int32} (h : 0 < w) : wm v w = wm v (rcM w s) % w := by
  unfold rcM
  split
  · exact wm_same h
  · exact wm_wm2 h
theorem wm_rr {w s : Nat} {v : Int32} (h : 0 < w) : wm v w = wm v (rrM w s) % w := by
  unfold rrM
  split
  · exact wm_same h
  · exact wm_wm2 h
theorem pcol_N {f : Nat → Int32} {w h s : Nat} {x y : Int32} (hw : 0 < w) (hh : 0 < h) : pcol f w h s x y = pcN (fun a b => f (b * w + a)) w h s (wm x (rcM w s)) (wm y (rrM h s)) := by
  unfold pcol pcN
  rw [← wm_rc hw, ← wm_rr hh]
theorem pcN_congr {F G : Nat → Nat → Int32} {w h s x y : Nat} (hw : 0 < w) (hh : 0 < h) (hq : s = 5 → w = h) (hFG : ∀ a b, a < w → b < h → F a b = G a b) : pcN F w h s x y = pcN G w h s x y := hFG _ _ (sx_lt (Nat.mod_lt _ hw) (Nat.mod_lt _ hh) hq) (sy_lt (Nat.mod_lt _ hw) (Nat.mod_lt _ hh) hq)
