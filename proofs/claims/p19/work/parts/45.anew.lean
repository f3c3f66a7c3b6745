/-! repeats found anew -/
def EQC (c : Nat → Nat → Int32) (C R dx dy x y : Nat) : Prop := c x y = c ((x + dx) % C) ((y + dy) % R)
def STAY (c : Nat → Nat → Int32) (C R dx dy : Nat) : Prop := ∀ x, x < C → ∀ y, y < R → EQC c C R dx dy x y
/-- the class's colours over the repeat -/
def cF (iv : IVt) (i w : Nat) : Nat → Nat → Int32 := fun a b => iv 7 i (b * w + a)
section AN
variable {A : Adr} {iv : IVt} {rv : RVt} {ov : Nat → Int64} {z i w h s : Nat}
theorem pcn_spec {x y : Nat} (hA : IN A) (hP : PAT A iv rv i w h s) (hx : x < 100) (hy : y < 100) : F_X3_colourAt (A.1 5 i) (nI x) (nI y) (z, hv A iv rv ov) = rtv (pcN (cF iv i w) w h s (x % rcM w s) (y % rrM h s)) (z, hv A iv rv ov) := by
  obtain ⟨h1, h2, h3, h4, h5, h6, h7, h8, h9, h10⟩ := id hP
  obtain ⟨g1, g2, g3, g4, g5, g6, g7, g8, g9, g10, g11, g12⟩ := id h2
  rw [pc_spec hA hP, pcol_N g9 g11, wm_nI (by omega), wm_nI (by omega)]
  rfl
theorem stay13 {dx dy y : Nat} (hA : IN A) (hP : PAT A iv rv i w h s) (hdx : dx ≤ 10) (hdy : dy ≤ 10) (hy : y < rrM h s) (K2 : Nat → Int32 → Int32 → Int32 → hpT → Rs Int32) : ∀ n x, x ≤ rcM w s → rcM w s < x + n →
    ((∀ x', x ≤ x' → x' < rcM w s → EQC (pcN (cF iv i w) w h s) (rcM w s) (rrM h s) dx dy x' y) → F_X3_staysWhenMoved_b13 K2 n (A.1 5 i) (nI dx) (nI dy) (nI y) (nI x) (z, hv A iv rv ov) = K2 (A.1 5 i) (nI dx) (nI dy) (nI (y + 1)) (z, hv A iv rv ov)) ∧
    ((∃ x', x ≤ x' ∧ x' < rcM w s ∧ ¬ EQC (pcN (cF iv i w) w h s) (rcM w s) (rrM h s) dx dy x' y) → F_X3_staysWhenMoved_b13 K2 n (A.1 5 i) (nI dx) (nI dy) (nI y) (nI x) (z, hv A iv rv ov) = rtv 0 (z, hv A iv rv ov)) := by
  obtain ⟨h1, h2, h3, h4, h5, h6, h7, h8, h9, h10⟩ := id hP
  have c2 := rcM_le (w := w) (s := s) h7
  have r2 := rrM_le (w := h) (s := s) h8
  intro n
  induction n with
  | zero => intro x h1 h2; omega
  | succ n ih =>
    intro x hx hn
    unfold F_X3_staysWhenMoved_b13
    rw [gfI_hv hA h1 (by rfl) (by decide) rfl, h5]
    by_cases q : rcM w s ≤ x
    · rw [if_pos (nI_le q (by omega)), nI_1]
      refine ⟨fun _ => rfl, ?_⟩
      rintro ⟨x', a, b, -⟩
      omega
    · rw [if_neg (nI_ge (by omega) (by omega)), isO_hv hA h1 (by rfl) (by decide), pcn_spec hA hP (by omega) (by omega), bnd_v, isO_hv hA h1 (by rfl) (by decide), nI_add, nI_add, pcn_spec hA hP (by omega) (by omega), bnd_v, Nat.mod_eq_of_lt (show x < rcM w s by omega), Nat.mod_eq_of_lt hy]
      obtain ⟨i1, i2⟩ := ih (x + 1) (by omega) (by omega)
      by_cases e : pcN (cF iv i w) w h s x y = pcN (cF iv i w) w h s ((x + dx) % rcM w s) ((y + dy) % rrM h s)
      · rw [if_pos e, nI_1]
        refine ⟨fun H => i1 (fun x' a b => H x' (by omega) b), ?_⟩
        rintro ⟨x', a, b, c⟩
        refine i2 ⟨x', ?_, b, c⟩
        by_cases g : x' = x
        · subst g; exact absurd e c
        · omega
      · rw [if_neg e]
        exact ⟨fun H => absurd (H x (Nat.le_refl _) (by omega)) e, fun _ => rfl⟩
theorem stay2 {dx dy : Nat} (hA : IN A) (hP : PAT A iv rv i w h s) (hdx : dx ≤ 10) (hdy : dy ≤ 10) : ∀ n y, y ≤ rrM h s → rrM h s < y + n →
    ((∀ y', y ≤ y' → y' < rrM h s → ∀ x, x < rcM w s → EQC (pcN (cF iv i w) w h s) (rcM w s) (rrM h s) dx dy x y') → F_X3_staysWhenMoved_b2 n (A.1 5 i) (nI dx) (nI dy) (nI y) (z, hv A iv rv ov) = rtv 1 (z, hv A iv rv ov)) ∧
    ((∃ y', y ≤ y' ∧ y' < rrM h s ∧ ∃ x, x < rcM w s ∧ ¬ EQC (pcN (cF iv i w) w h s) (rcM w s) (rrM h s) dx dy x y') → F_X3_staysWhenMoved_b2 n (A.1 5 i) (nI dx) (nI dy) (nI y) (z, hv A iv rv ov) = rtv 0 (z, hv A iv rv ov)) := by
  obtain ⟨h1, h2, h3, h4, h5, h6, h7, h8, h9, h10⟩ := id hP
  have c2 := rcM_le (w := w) (s := s) h7
  have r2 := rrM_le (w := h) (s := s) h8
  intro n
  induction n with
  | zero => intro x h1 h2; omega
  | succ n ih =>
    intro y hy hn
    unfold F_X3_staysWhenMoved_b2
    rw [gfI_hv hA h1 (by rfl) (by decide) rfl, h6]
    by_cases q : rrM h s ≤ y
    · rw [if_pos (nI_le q (by omega))]
      refine ⟨fun _ => rfl, ?_⟩
      rintro ⟨y', a, b, -⟩
      omega
    · rw [if_neg (nI_ge (by omega) (by omega))]
      obtain ⟨i1, i2⟩ := ih (y + 1) (by omega) (by omega)
      obtain ⟨j1, j2⟩ := stay13 (ov := ov) (z := z) (y := y) hA hP hdx hdy (by omega) (F_X3_staysWhenMoved_b2 n) 1000 0 (by omega) (by omega)
      by_cases e : ∀ x', 0 ≤ x' → x' < rcM w s → EQC (pcN (cF iv i w) w h s) (rcM w s) (rrM h s) dx dy x' y
      · have j3 := j1 e
        refine ⟨fun H => j3.trans (i1 (fun y' a b => H y' (by omega) b)), ?_⟩
        rintro ⟨y', a, b, x, c, d⟩
        refine j3.trans (i2 ⟨y', ?_, b, x, c, d⟩)
        by_cases g : y' = y
        · subst g; exact absurd (e x (by omega) c) d
        · omega
      · refine ⟨fun H => absurd (fun x' _ hx' => H y (Nat.le_refl _) (by omega) x' hx') e, fun _ => j2 ?_⟩
        refine Classical.byContradiction (fun hne => e (fun x' a b => Classical.byContradiction (fun hE => hne ⟨x', a, b, hE⟩)))
theorem stay_spec {dx dy : Nat} (hA : IN A) (hP : PAT A iv rv i w h s) (hdx : dx ≤ 10) (hdy : dy ≤ 10) :
    (STAY (pcN (cF iv i w) w h s) (rcM w s) (rrM h s) dx dy → F_X3_staysWhenMoved (A.1 5 i) (nI dx) (nI dy) (z, hv A iv rv ov) = rtv 1 (z, hv A iv rv ov)) ∧
    (¬ STAY (pcN (cF iv i w) w h s) (rcM w s) (rrM h s) dx dy → F_X3_staysWhenMoved (A.1 5 i) (nI dx) (nI dy) (z, hv A iv rv ov) = rtv 0 (z, hv A iv rv ov)) := by
  have h8 : h ≤ 5 := hP.2.2.2.2.2.2.2.1
  have r2 := rrM_le (w := h) (s := s) h8
  obtain ⟨j1, j2⟩ := stay2 (ov := ov) (z := z) hA hP hdx hdy 1000 0 (by omega) (by omega)
  refine ⟨fun H => j1 (fun y' _ b x c => H x c y' b), fun H => j2 ?_⟩
  refine Classical.byContradiction (fun hne => H (fun x c y b => Classical.byContradiction (fun hE => hne ⟨y, Nat.zero_le _, b, x, c, hE⟩)))
/-- the least move from 1 on -/
def LEAST (S : Nat → Prop) (r : Nat) : Prop := 1 ≤ r ∧ S r ∧ ∀ k, 1 ≤ k → k < r → ¬ S k
theorem least_ex {S : Nat → Prop} {m : Nat} (hm : 1 ≤ m) (h : S m) : ∃ r, r ≤ m ∧ LEAST S r := by
  obtain ⟨k, ⟨a, b⟩, c⟩ := pk_least (fun k => 1 ≤ k ∧ S k) ⟨m, hm, h⟩
  refine ⟨k, ?_, a, b, fun j hj hk q => c j hk ⟨hj, q⟩⟩
  refine Classical.byContradiction (fun q => c m (by omega) ⟨hm, h⟩)
theorem least_congr {S S' : Nat → Prop} {r : Nat} (h : ∀ k, S k ↔ S' k) (hL : LEAST S r) : LEAST S' r := ⟨hL.1, (h r).mp hL.2.1, fun k a b q => hL.2.2 k a b ((h k).mpr q)⟩
/-- the moves asked for: by columns, or by rows -/
def MOVES (c : Nat → Nat → Int32) (C R : Nat) (rows : Bool) (k : Nat) : Prop := if rows then STAY c C R 0 k else STAY c C R k 0
theorem moves_full {c : Nat → Nat → Int32} {C R : Nat} {rows : Bool} : MOVES c C R rows (if rows then R else C) := by
  cases rows
  · intro x hx y hy
    show c x y = c ((x + C) % C) ((y + 0) % R)
    rw [Nat.add_mod_right, Nat.mod_eq_of_lt hx, Nat.add_zero, Nat.mod_eq_of_lt hy]
  · intro x hx y hy
    show c x y = c ((x + 0) % C) ((y + R) % R)
    rw [Nat.add_mod_right, Nat.mod_eq_of_lt hy, Nat.add_zero, Nat.mod_eq_of_lt hx]
theorem least18 {M r : Nat} {b : Bool} (hA : IN A) (hP : PAT A iv rv i w h s) (hM : M ≤ 10) (hr : r ≤ M) (hL : LEAST (MOVES (pcN (cF iv i w) w h s) (rcM w s) (rrM h s) b) r) : ∀ n k, 1 ≤ k → k ≤ r → r < k + n → F_X3_leastMove_b18 n (A.1 5 i) (bI b) (nI M) (nI k) (z, hv A iv rv ov) = rtv (nI r) (z, hv A iv rv ov) := by
  have h1 : A.2.2 5 i = true := hP.1
  obtain ⟨l1, l2, l3⟩ := hL
  intro n
  induction n with
  | zero => intro k a b c; omega
  | succ n ih =>
    intro k hk1 hk hn
    unfold F_X3_leastMove_b18
    by_cases q : M ≤ k
    · rw [if_pos (nI_le q (by omega)), show M = r by omega]
    · rw [if_neg (nI_ge (by omega) (by omega)), bI_if]
      by_cases e : k = r
      · subst e
        cases b
        · have hs := (stay_spec (ov := ov) (z := z) (dx := k) (dy := 0) hA hP (by omega) (by omega)).1 l2
          rw [if_neg (by decide), isO_hv hA h1 (by rfl) (by decide), show (0 : Int32) = nI 0 from rfl, hs, bnd_v, if_neg (by decide)]
        · have hs := (stay_spec (ov := ov) (z := z) (dx := 0) (dy := k) hA hP (by omega) (by omega)).1 l2
          rw [if_pos rfl, isO_hv hA h1 (by rfl) (by decide), show (0 : Int32) = nI 0 from rfl, hs, bnd_v, if_neg (by decide)]
      · have l4 := l3 k hk1 (by omega)
        cases b
        · have hs := (stay_spec (ov := ov) (z := z) (dx := k) (dy := 0) hA hP (by omega) (by omega)).2 l4
          rw [if_neg (by decide), isO_hv hA h1 (by rfl) (by decide), show (0 : Int32) = nI 0 from rfl, hs, bnd_v, if_pos (by decide)]
          unfold F_X3_leastMove_b50
          rw [nI_1, ih (k + 1) (by omega) (by omega) (by omega)]
        · have hs := (stay_spec (ov := ov) (z := z) (dx := 0) (dy := k) hA hP (by omega) (by omega)).2 l4
          rw [if_pos rfl, isO_hv hA h1 (by rfl) (by decide), show (0 : Int32) = nI 0 from rfl, hs, bnd_v, if_pos (by decide)]
          unfold F_X3_leastMove_b50
          rw [nI_1, ih (k + 1) (by omega) (by omega) (by omega)]
theorem least_spec {r : Nat} {b : Bool} (hA : IN A) (hP : PAT A iv rv i w h s) (hL : LEAST (MOVES (pcN (cF iv i w) w h s) (rcM w s) (rrM h s) b) r) : F_X3_leastMove (A.1 5 i) (bI b) (z, hv A iv rv ov) = rtv (nI r) (z, hv A iv rv ov) := by
  obtain ⟨h1, h2, h3, h4, h5, h6, h7, h8, h9, h10⟩ := id hP
  obtain ⟨g1, g2, g3, g4, g5, g6, g7, g8, g9, g10, g11, g12⟩ := id h2
  have c1 := rcM_pos (w := w) (s := s) g9
  have c2 := rcM_le (w := w) (s := s) h7
  have r1 := rrM_pos (w := h) (s := s) g11
  have r2 := rrM_le (w := h) (s := s) h8
  have hf : r ≤ (if b then rrM h s else rcM w s) := by
    refine Classical.byContradiction (fun q => hL.2.2 (if b then rrM h s else rcM w s) ?_ (by omega) moves_full)
    cases b
    · exact c1
    · exact r1
  unfold F_X3_leastMove F_X3_leastMove_b15
  rw [bI_if]
  cases b
  · rw [if_neg (by decide), gfI_hv hA h1 (by rfl) (by decide) rfl, h5]
    exact least18 (b := false) hA hP c2 hf hL 1000 1 (by omega) hL.1 (by have := hf; simp at this; omega)
  · rw [if_pos rfl, gfI_hv hA h1 (by rfl) (by decide) rfl, h6]
    exact least18 (b := true) hA hP r2 hf hL 1000 1 (by omega) hL.1 (by have := hf; simp at this; omega)
end AN
