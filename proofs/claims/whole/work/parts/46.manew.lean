/-! the reference's repeats found anew -/
theorem u3_tag {α : Type} {f : Nat → Nat → Nat → α} {T i j T' : Nat} {x : α} (h : T' ≠ T) : u3 f T i j x T' = f T' := funext fun b => funext fun c => if_neg (fun q => h q.1)
theorem z3_tag {α : Type} {f : Nat → Nat → Nat → α} {T i T' : Nat} {x : α} (h : T' ≠ T) : z3 f T i x T' = f T' := funext fun b => funext fun c => if_neg (fun q => h q.1)
section MN
variable {A : Adr} {iv : IVt} {rv : RVt} {ov : Nat → Int64} {z i w h s : Nat}
theorem mcn_spec {x y : Nat} (hM : MD A rv) (hP : MPA iv i w h s) (hx : x < 100) (hy : y < 100) : F_X8_colourAt (A.1 20 0) (nI i) (nI x) (nI y) (z, hv A iv rv ov) = rtv (pcN (mF iv i) w h s (x % rcM w s) (y % rrM h s)) (z, hv A iv rv ov) := by
  rw [mcol_spec hM hP, wm_nI (by omega), wm_nI (by omega)]
theorem hold19 {dx dy x : Nat} (hM : MD A rv) (hP : MPA iv i w h s) (hdx : dx ≤ 10) (hdy : dy ≤ 10) (hx : x < rcM w s) (K6 : Nat → Int32 → Int32 → Int32 → Int32 → Int32 → hpT → Rs Int32) : ∀ n y, y ≤ rrM h s → rrM h s < y + n →
    ((∀ y', y ≤ y' → y' < rrM h s → EQC (pcN (mF iv i) w h s) (rcM w s) (rrM h s) dx dy x y') → F_X8_holds_b19 K6 n (A.1 20 0) (nI i) (nI dx) (nI dy) 1 (nI x) (nI y) (z, hv A iv rv ov) = K6 (A.1 20 0) (nI i) (nI dx) (nI dy) 1 (nI (x + 1)) (z, hv A iv rv ov)) ∧
    ((∃ y', y ≤ y' ∧ y' < rrM h s ∧ ¬ EQC (pcN (mF iv i) w h s) (rcM w s) (rrM h s) dx dy x y') → F_X8_holds_b19 K6 n (A.1 20 0) (nI i) (nI dx) (nI dy) 1 (nI x) (nI y) (z, hv A iv rv ov) = K6 (A.1 20 0) (nI i) (nI dx) (nI dy) 0 (nI (x + 1)) (z, hv A iv rv ov)) ∧
    F_X8_holds_b19 K6 n (A.1 20 0) (nI i) (nI dx) (nI dy) 0 (nI x) (nI y) (z, hv A iv rv ov) = K6 (A.1 20 0) (nI i) (nI dx) (nI dy) 0 (nI (x + 1)) (z, hv A iv rv ov) := by
  obtain ⟨h1, h2, h3, h4, h5, h6, h7, h8, h9, h10⟩ := id hP
  have c2 := rcM_le (w := w) (s := s) h6
  have r2 := rrM_le (w := h) (s := s) h8
  intro n
  induction n with
  | zero => intro y h1 h2; omega
  | succ n ih =>
    intro y hy hn
    unfold F_X8_holds_b19
    simp only [mO hM, rows_spec hM hP, bnd_v]
    by_cases q : rrM h s ≤ y
    · simp only [if_pos (nI_le (a := rrM h s) q (by omega)), nI_1]
      refine ⟨fun _ => trivial, ?_, trivial⟩
      rintro ⟨x', a, b, -⟩
      omega
    · simp only [if_neg (nI_ge (a := y) (b := rrM h s) (by omega) (by omega)), if_neg (show ¬ (1 : Int32) = 0 by decide), if_true, mO hM, nI_add]
      rw [mcn_spec hM hP (by omega) (by omega), bnd_v, mO hM, mcell_spec hM hP (by omega) (by omega), bnd_v]
      unfold F_X8_holds_b63 F_X8_holds_b64
      obtain ⟨i1, i2, i3⟩ := ih (y + 1) (by omega) (by omega)
      rw [nI_1, i3]
      refine ⟨fun H => ?_, fun H => ?_, rfl⟩
      · have e := H y (Nat.le_refl _) (by omega)
        rw [if_pos (show pcN (mF iv i) w h s ((x + dx) % rcM w s) ((y + dy) % rrM h s) = pcN (mF iv i) w h s x y from e.symm)]
        exact i1 (fun y' a b => H y' (by omega) b)
      · by_cases e : pcN (mF iv i) w h s ((x + dx) % rcM w s) ((y + dy) % rrM h s) = pcN (mF iv i) w h s x y
        · rw [if_pos e]
          obtain ⟨y', a, b, c⟩ := H
          refine i2 ⟨y', ?_, b, c⟩
          by_cases g : y' = y
          · subst g; exact absurd e.symm c
          · omega
        · rw [if_neg e]
theorem hold6 {dx dy : Nat} (hM : MD A rv) (hP : MPA iv i w h s) (hdx : dx ≤ 10) (hdy : dy ≤ 10) : ∀ n x, x ≤ rcM w s → rcM w s < x + n →
    ((∀ x', x ≤ x' → x' < rcM w s → ∀ y, y < rrM h s → EQC (pcN (mF iv i) w h s) (rcM w s) (rrM h s) dx dy x' y) → F_X8_holds_b6 n (A.1 20 0) (nI i) (nI dx) (nI dy) 1 (nI x) (z, hv A iv rv ov) = rtv 1 (z, hv A iv rv ov)) ∧
    ((∃ x', x ≤ x' ∧ x' < rcM w s ∧ ∃ y, y < rrM h s ∧ ¬ EQC (pcN (mF iv i) w h s) (rcM w s) (rrM h s) dx dy x' y) → F_X8_holds_b6 n (A.1 20 0) (nI i) (nI dx) (nI dy) 1 (nI x) (z, hv A iv rv ov) = rtv 0 (z, hv A iv rv ov)) ∧
    F_X8_holds_b6 n (A.1 20 0) (nI i) (nI dx) (nI dy) 0 (nI x) (z, hv A iv rv ov) = rtv 0 (z, hv A iv rv ov) := by
  obtain ⟨h1, h2, h3, h4, h5, h6, h7, h8, h9, h10⟩ := id hP
  have c2 := rcM_le (w := w) (s := s) h6
  have r2 := rrM_le (w := h) (s := s) h8
  intro n
  induction n with
  | zero => intro x h1 h2; omega
  | succ n ih =>
    intro x hx hn
    unfold F_X8_holds_b6
    simp only [mO hM, cols_spec hM hP, bnd_v]
    by_cases q : rcM w s ≤ x
    · simp only [if_pos (nI_le (a := rcM w s) q (by omega))]
      refine ⟨fun _ => rfl, ?_, rfl⟩
      rintro ⟨y', a, b, -⟩
      omega
    · simp only [if_neg (nI_ge (a := x) (b := rcM w s) (by omega) (by omega))]
      obtain ⟨i1, i2, i3⟩ := ih (x + 1) (by omega) (by omega)
      obtain ⟨j1, j2, j3⟩ := hold19 (ov := ov) (z := z) (x := x) hM hP hdx hdy (by omega) (F_X8_holds_b6 n) 1000 0 (by omega) (by omega)
      refine ⟨fun H => (j1 (fun y a b => H x (Nat.le_refl _) (by omega) y b)).trans (i1 (fun x' a b => H x' (by omega) b)), ?_, j3.trans i3⟩
      rintro ⟨x', a, b, y, c, d⟩
      by_cases e : ∀ y', 0 ≤ y' → y' < rrM h s → EQC (pcN (mF iv i) w h s) (rcM w s) (rrM h s) dx dy x y'
      · refine (j1 e).trans (i2 ⟨x', ?_, b, y, c, d⟩)
        by_cases g : x' = x
        · subst g; exact absurd (e y (by omega) c) d
        · omega
      · refine (j2 ?_).trans i3
        refine Classical.byContradiction (fun hne => e (fun x' a b => Classical.byContradiction (fun hE => hne ⟨x', a, b, hE⟩)))
theorem hold_spec {dx dy : Nat} (hM : MD A rv) (hP : MPA iv i w h s) (hdx : dx ≤ 10) (hdy : dy ≤ 10) :
    (STAY (pcN (mF iv i) w h s) (rcM w s) (rrM h s) dx dy → F_X8_holds (A.1 20 0) (nI i) (nI dx) (nI dy) (z, hv A iv rv ov) = rtv 1 (z, hv A iv rv ov)) ∧
    (¬ STAY (pcN (mF iv i) w h s) (rcM w s) (rrM h s) dx dy → F_X8_holds (A.1 20 0) (nI i) (nI dx) (nI dy) (z, hv A iv rv ov) = rtv 0 (z, hv A iv rv ov)) := by
  have h6 : w ≤ 5 := hP.2.2.2.2.2.1
  have c2 := rcM_le (w := w) (s := s) h6
  obtain ⟨j1, j2, -⟩ := hold6 (ov := ov) (z := z) hM hP hdx hdy 1000 0 (by omega) (by omega)
  refine ⟨fun H => j1 (fun x' _ b y c => H x' b y c), fun H => j2 ?_⟩
  refine Classical.byContradiction (fun hne => H (fun x b y c => Classical.byContradiction (fun hE => hne ⟨x, Nat.zero_le _, b, y, c, hE⟩)))
theorem anew24 {r : Nat} {b : Bool} (hM : MD A rv) (hP : MPA iv i w h s) (hr : r ≤ 10) (hL : LEAST (MOVES (pcN (mF iv i) w h s) (rcM w s) (rrM h s) b) r) : ∀ n k, 1 ≤ k → k ≤ r → r < k + n → F_X8_repeatAnew_b24 n (A.1 20 0) (nI i) (bI b) (nI k) (z, hv A iv rv ov) = rtv (nI r) (z, hv A iv rv ov) := by
  obtain ⟨l1, l2, l3⟩ := hL
  intro n
  induction n with
  | zero => intro k a b c; omega
  | succ n ih =>
    intro k hk1 hk hn
    unfold F_X8_repeatAnew_b24 F_X8_repeatAnew_b35 F_X8_repeatAnew_b44
    simp only [bI_if, mO hM]
    by_cases e : k = r
    · subst e
      cases b
      · have hs := (hold_spec (ov := ov) (z := z) (dx := k) (dy := 0) hM hP (by omega) (by omega)).1 l2
        rw [if_neg (by decide), if_neg (by decide), show (0 : Int32) = nI 0 from rfl, hs, bnd_v, if_neg (by decide)]
      · have hs := (hold_spec (ov := ov) (z := z) (dx := 0) (dy := k) hM hP (by omega) (by omega)).1 l2
        rw [if_pos rfl, if_pos rfl, show (0 : Int32) = nI 0 from rfl, hs, bnd_v, if_neg (by decide)]
    · have l4 := l3 k hk1 (by omega)
      cases b
      · have hs := (hold_spec (ov := ov) (z := z) (dx := k) (dy := 0) hM hP (by omega) (by omega)).2 l4
        rw [if_neg (by decide), if_neg (by decide), show (0 : Int32) = nI 0 from rfl, hs, bnd_v, if_pos (by decide), nI_1, ih (k + 1) (by omega) (by omega) (by omega)]
      · have hs := (hold_spec (ov := ov) (z := z) (dx := 0) (dy := k) hM hP (by omega) (by omega)).2 l4
        rw [if_pos rfl, if_pos rfl, show (0 : Int32) = nI 0 from rfl, hs, bnd_v, if_pos (by decide), nI_1, ih (k + 1) (by omega) (by omega) (by omega)]
/-! refusals, and the tests of indexes -/
theorem refused_spec {c : Nat} (hM : MD A rv) (hc : c < 4) : F_X8_refused (A.1 20 0) (nI c) (z, hv A iv rv ov) = rtv (bI (decide (c ≠ 0))) (z, hv A (u3 iv 20 0 0 (nI c)) rv ov) := by
  unfold F_X8_refused
  rw [mP0 hM]
  rcases (show c = 0 ∨ c = 1 ∨ c = 2 ∨ c = 3 by omega) with rfl | rfl | rfl | rfl <;> rfl
theorem thrown_spec (hM : MD A rv) : F_X8_thrown (A.1 20 0) (z, hv A iv rv ov) = rtv (iv 20 0 0) (z, hv A iv rv ov) := by
  unfold F_X8_thrown
  rw [mI0 hM]
end MN
