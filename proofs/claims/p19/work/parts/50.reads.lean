/-! the calls that write nothing, on the class alone -/
abbrev IX : String := "java/lang/IndexOutOfBoundsException"
abbrev IA : String := "java/lang/IllegalArgumentException"
abbrev IS : String := "java/lang/IllegalStateException"
theorem nI_inj {a b : Nat} (ha : a < 2 ^ 31) (hb : b < 2 ^ 31) (h : nI a = nI b) : a = b := (nI_eq ha hb).mp h
theorem nI_m1 {l : Nat} (h : l < 2 ^ 31) : ¬ nI l = -1 := fun q => by
  have h1 := nI_toInt h
  rw [q, show (-1 : Int32).toInt = -1 by decide] at h1
  omega
theorem rg5_ne {v : Int32} {m : Nat} (hm : m < 2 ^ 31) (h : ¬ inR v 0 (nI m)) : ∀ n, n ≤ m → ¬ v = nI n := fun n hn q => h (by rw [q]; exact rg_to (a := 0) (b := m) (Nat.zero_le _) hn hm)
def isum (f : Nat → Int32) : Nat → Int32
  | 0 => 0
  | k + 1 => isum f k + f k
theorem isum_nI {f : Nat → Int32} {g : Nat → Nat} : ∀ n, (∀ w, w < n → f w = nI (g w)) → isum f n = nI (nsum g n)
  | 0, _ => rfl
  | n + 1, h => by
    unfold isum nsum
    rw [isum_nI n (fun w hw => h w (by omega)), h n (by omega), nI_add]
section RD
variable {A : Adr} {iv : IVt} {rv : RVt} {ov : Nat → Int64} {z np nr nl : Nat}
theorem k_colour {j w hh s : Nat} {x y : Int32} (h : INV A iv rv np nr nl) (hj : j < np) (hP : PAT A iv rv j w hh s) : F_X7_colour (A.1 0 0) (nI j) x y (z, hv A iv rv ov) = rtv (pcol (iv 7 j) w hh s x y) (z, hv A iv rv ov) := by
  have hA := h.1
  obtain ⟨⟨t0, -⟩, -⟩ := id h.2.1
  unfold F_X7_colour
  rw [isO_hv hA t0 (by rfl) (by decide), patAt_in h hj, bnd_v, isO_hv hA hP.1 (by rfl) (by decide), pc_spec hA hP, bnd_v]
theorem k_colour_x {v x y : Int32} (h : INV A iv rv np nr nl) (hx : ¬ ∃ j, j < np ∧ v = nI j) : F_X7_colour (A.1 0 0) v x y (z, hv A iv rv ov) = tht IX (z, hv A iv rv ov) := by
  have hA := h.1
  obtain ⟨⟨t0, -⟩, -⟩ := id h.2.1
  unfold F_X7_colour
  rw [isO_hv hA t0 (by rfl) (by decide), patAt_out h hx, bnd_t]
theorem k_repeat {j w hh s : Nat} {b : Bool} (h : INV A iv rv np nr nl) (hj : j < np) (hP : PAT A iv rv j w hh s) : F_X7_repeat (A.1 0 0) (nI j) (bI b) (z, hv A iv rv ov) = rtv (if b = true then nI (rrM hh s) else nI (rcM w s)) (z, hv A iv rv ov) := by
  have hA := h.1
  obtain ⟨⟨t0, -⟩, -⟩ := id h.2.1
  obtain ⟨q1, q2, q3, q4, q5, q6, -⟩ := id hP
  unfold F_X7_repeat
  rw [isO_hv hA t0 (by rfl) (by decide), patAt_in h hj, bnd_v, bI_if, gfI_hv hA q1 (by rfl) (by decide) (by rfl), gfI_hv hA q1 (by rfl) (by decide) (by rfl), q5, q6]
  cases b <;> rfl
theorem k_repeat_x {v : Int32} {b : Int32} (h : INV A iv rv np nr nl) (hx : ¬ ∃ j, j < np ∧ v = nI j) : F_X7_repeat (A.1 0 0) v b (z, hv A iv rv ov) = tht IX (z, hv A iv rv ov) := by
  have hA := h.1
  obtain ⟨⟨t0, -⟩, -⟩ := id h.2.1
  unfold F_X7_repeat
  rw [isO_hv hA t0 (by rfl) (by decide), patAt_out h hx, bnd_t]
theorem k_anew {j w hh s r : Nat} {b : Bool} (h : INV A iv rv np nr nl) (hj : j < np) (hP : PAT A iv rv j w hh s) (hL : LEAST (MOVES (pcN (cF iv j w) w hh s) (rcM w s) (rrM hh s) b) r) : F_X7_repeatAnew (A.1 0 0) (nI j) (bI b) (z, hv A iv rv ov) = rtv (nI r) (z, hv A iv rv ov) := by
  have hA := h.1
  obtain ⟨⟨t0, -⟩, -⟩ := id h.2.1
  unfold F_X7_repeatAnew
  rw [isO_hv hA t0 (by rfl) (by decide), patAt_in h hj, bnd_v, isO_hv hA hP.1 (by rfl) (by decide), least_spec hA hP hL, bnd_v]
theorem k_anew_x {v : Int32} {b : Int32} (h : INV A iv rv np nr nl) (hx : ¬ ∃ j, j < np ∧ v = nI j) : F_X7_repeatAnew (A.1 0 0) v b (z, hv A iv rv ov) = tht IX (z, hv A iv rv ov) := by
  have hA := h.1
  obtain ⟨⟨t0, -⟩, -⟩ := id h.2.1
  unfold F_X7_repeatAnew
  rw [isO_hv hA t0 (by rfl) (by decide), patAt_out h hx, bnd_t]
theorem k_lotOf {j n : Nat} (h : INV A iv rv np nr nl) (hj : j < nl) (hn : n = 0 ∨ n = 2 ∨ n = 3) : F_X7_lotOf (A.1 0 0) (nI j) (nI n) (z, hv A iv rv ov) = rtv (if n = 0 then iv 11 j 1 else if n = 2 then iv 11 j 4 else iv 11 j 3) (z, hv A iv rv ov) := by
  have hA := h.1
  obtain ⟨⟨t0, -⟩, -⟩ := id h.2.1
  obtain ⟨q, k, L, p1, p2, p3, p4, -⟩ := h.2.2.2.2.2.1 j hj
  unfold F_X7_lotOf
  rw [isO_hv hA t0 (by rfl) (by decide), lotAt_in h hj, bnd_v]
  rcases hn with rfl | rfl | rfl
  · rw [if_pos (by decide), gfI_hv hA p3 (by rfl) (by decide) (by rfl)]
    rfl
  · rw [if_neg (by decide), if_neg (by decide), if_pos (by decide), gfI_hv hA p3 (by rfl) (by decide) (by rfl)]
    rfl
  · rw [if_neg (by decide), if_neg (by decide), if_neg (by decide), if_pos (by decide), gfI_hv hA p3 (by rfl) (by decide) (by rfl)]
    rfl
theorem k_lotOf4 {j : Nat} (h : INV A iv rv np nr nl) (hj : j < nl) : ∃ x, F_X7_lotOf (A.1 0 0) (nI j) 4 (z, hv A iv rv ov) = rtv (nI x) (z, hv A iv rv ov) ∧ 1 ≤ x ∧ x < 1000 := by
  have hA := h.1
  obtain ⟨⟨t0, -⟩, -⟩ := id h.2.1
  obtain ⟨q, k, L, p1, p2, p3, p4, p5, p8, p10, p11, p12, p13⟩ := h.2.2.2.2.2.1 j hj
  obtain ⟨c, r, rd, r2, r5, r6, r7, r8, r10, r11⟩ := h.2.2.2.2.1 q p1
  refine ⟨(L + rd - 1) / rd, ?_, ?_, ?_⟩
  · unfold F_X7_lotOf F_X1_roundsOfARoll
    rw [isO_hv hA t0 (by rfl) (by decide), lotAt_in h hj, bnd_v, if_neg (by decide), if_neg (by decide), if_neg (by decide), if_neg (by decide), if_pos (by decide), isO_hv hA p3 (by rfl) (by decide), gfR_hv hA p3 (by rfl) (by decide) (by rfl), p4, rfv_s, nn_s, gfI_hv hA r5 (by rfl) (by decide) (by rfl), r8, if_pos (show (1 : Int32) ≤ nI rd from nI_le (a := 1) r10 (by omega)), gfI_hv hA p3 (by rfl) (by decide) (by rfl), p11, nz_p (nI_ne0 (by omega) (by omega)), bnd_v, nI_add, show (1 : Int32) = nI 1 from rfl, pk_sub (by omega), pk_div (by omega) (by omega) (by omega)]
  · exact (Nat.le_div_iff_mul_le (by omega)).mpr (by omega)
  · exact Nat.lt_of_le_of_lt (Nat.div_le_self _ _) (by omega)
theorem k_lotOf_x {v w : Int32} (h : INV A iv rv np nr nl) (hx : ¬ ∃ j, j < nl ∧ v = nI j) : F_X7_lotOf (A.1 0 0) v w (z, hv A iv rv ov) = tht IX (z, hv A iv rv ov) := by
  have hA := h.1
  obtain ⟨⟨t0, -⟩, -⟩ := id h.2.1
  unfold F_X7_lotOf
  rw [isO_hv hA t0 (by rfl) (by decide), lotAt_out h hx, bnd_t]
theorem k_lotOf_w {j : Nat} {w : Int32} (h : INV A iv rv np nr nl) (hj : j < nl) (hw : ¬ inR w 0 (nI 4)) : F_X7_lotOf (A.1 0 0) (nI j) w (z, hv A iv rv ov) = tht IA (z, hv A iv rv ov) := by
  have hA := h.1
  obtain ⟨⟨t0, -⟩, -⟩ := id h.2.1
  have e := rg5_ne (by decide) hw
  unfold F_X7_lotOf
  rw [isO_hv hA t0 (by rfl) (by decide), lotAt_in h hj, bnd_v, if_neg (show ¬ w = 0 from e 0 (by decide)), if_neg (show ¬ w = 1 from e 1 (by decide)), if_neg (show ¬ w = 2 from e 2 (by decide)), if_neg (show ¬ w = 3 from e 3 (by decide)), if_neg (show ¬ w = 4 from e 4 (by decide))]
theorem k_lost (h : INV A iv rv np nr nl) : F_X7_lost (A.1 0 0) (z, hv A iv rv ov) = rtv (iv 0 0 7) (z, hv A iv rv ov) := by
  have hA := h.1
  obtain ⟨⟨t0, -⟩, -⟩ := id h.2.1
  unfold F_X7_lost
  rw [gfI_hv hA t0 (by rfl) (by decide) (by rfl)]
theorem cHung_n {r : Nat} (hA : IN A) (h1 : A.2.2 12 r = true) (h2 : rv 12 r 3 = none) : F_X5_isHung (A.1 12 r) (z, hv A iv rv ov) = rtv 0 (z, hv A iv rv ov) := by
  unfold F_X5_isHung
  rw [gfR_hv hA h1 (by rfl) (by decide) (by rfl), h2, rfv_n, nlc_n]
  rfl
theorem cHung_s {r l : Nat} (hA : IN A) (h1 : A.2.2 12 r = true) (h2 : rv 12 r 3 = some (11, l)) : F_X5_isHung (A.1 12 r) (z, hv A iv rv ov) = rtv 1 (z, hv A iv rv ov) := by
  unfold F_X5_isHung
  rw [gfR_hv hA h1 (by rfl) (by decide) (by rfl), h2, rfv_s, nlc_s]
  rfl
theorem k_cut {r n w d : Nat} (h : INV A iv rv np nr nl) (hr : r < 4) (hn4 : n ≤ 4) (hn : iv 12 r 2 = nI n) (hw : w < n) (hd : ∀ D, iv 16 (4 * r + w) 2 = nI D → D ≤ 24 → d < D) : F_X7_cut (A.1 0 0) (nI r) (nI w) (nI d) (z, hv A iv rv ov) = rtv (if rv 12 r 3 = none then -1 else iv 17 (4 * r + w) d) (z, hv A iv rv ov) := by
  have hA := h.1
  obtain ⟨⟨t0, -⟩, -⟩ := id h.2.1
  obtain ⟨g1, g2, g3, g4, g5, g6, g7, n', g8, g9, g11, g12, g13, g14⟩ := h.2.2.2.2.2.2 r hr
  have en : n' = n := nI_inj (by omega) (by omega) (g9.symm.trans hn)
  subst en
  obtain ⟨D, hh, w1, w2, w3, w4, w5, w7, w8, w9, w11⟩ := g13 w hw
  have hdD := hd D w5 w8
  unfold F_X7_cut F_X7_cut_b38
  refine ((isO_hv hA t0 (by rfl) (by decide))).trans ?_
  rw [roomAt_in h hr, bnd_v, wallAt_in hA g1 g2 g5 g8 g11 hw, bnd_v, if_neg (nI_pos (by omega)), gfI_hv hA w2 (by rfl) (by decide) (by rfl), w5, if_neg (nI_ge hdD (by omega)), gfR_hv hA w2 (by rfl) (by decide) (by rfl), w4, rfv_s, nn_s, alen_I hA w3 (by rfl), show kn 17 = 24 from rfl, if_pos (nI_lt (by omega) (by decide)), isO_hv hA g1 (by rfl) (by decide)]
  rcases g14 with b1 | ⟨l, a, n1, b2, c⟩
  · rw [cHung_n hA g1 b1, bnd_v, if_pos rfl, if_pos b1]
  · rw [cHung_s hA g1 b2, bnd_v, if_neg (by decide), gfR_hv hA w2 (by rfl) (by decide) (by rfl), w4, rfv_s, nn_s, ald_hv hA w3 (by rfl) (show d < 24 by omega), if_neg (by rw [b2]; exact fun q => by cases q)]
theorem k_cut_d {r n w d D : Nat} (h : INV A iv rv np nr nl) (hr : r < 4) (hn4 : n ≤ 4) (hn : iv 12 r 2 = nI n) (hw : w < n) (hD : iv 16 (4 * r + w) 2 = nI D) (hD24 : D ≤ 24) (hd : D ≤ d) (hd2 : d < 100) : F_X7_cut (A.1 0 0) (nI r) (nI w) (nI d) (z, hv A iv rv ov) = tht IX (z, hv A iv rv ov) := by
  have hA := h.1
  obtain ⟨⟨t0, -⟩, -⟩ := id h.2.1
  obtain ⟨g1, g2, g3, g4, g5, g6, g7, n', g8, g9, g11, g12, g13, g14⟩ := h.2.2.2.2.2.2 r hr
  have en : n' = n := nI_inj (by omega) (by omega) (g9.symm.trans hn)
  subst en
  obtain ⟨D', hh, w1, w2, w3, w4, w5, w7, w8, w9, w11⟩ := g13 w hw
  unfold F_X7_cut F_X7_cut_b38
  refine ((isO_hv hA t0 (by rfl) (by decide))).trans ?_
  rw [roomAt_in h hr, bnd_v, wallAt_in hA g1 g2 g5 g8 g11 hw, bnd_v, if_neg (nI_pos (by omega)), gfI_hv hA w2 (by rfl) (by decide) (by rfl), hD, if_pos (nI_le hd (by omega))]
theorem k_cut_w {r n : Nat} {v d : Int32} (h : INV A iv rv np nr nl) (hr : r < 4) (hn4 : n ≤ 4) (hn : iv 12 r 2 = nI n) (hv' : ¬ ∃ w, w < n ∧ v = nI w) : F_X7_cut (A.1 0 0) (nI r) v d (z, hv A iv rv ov) = tht IX (z, hv A iv rv ov) := by
  have hA := h.1
  obtain ⟨⟨t0, -⟩, -⟩ := id h.2.1
  obtain ⟨g1, g2, g3, g4, g5, g6, g7, n', g8, g9, g11, g12, g13, g14⟩ := h.2.2.2.2.2.2 r hr
  have en : n' = n := nI_inj (by omega) (by omega) (g9.symm.trans hn)
  subst en
  unfold F_X7_cut
  rw [isO_hv hA t0 (by rfl) (by decide), roomAt_in h hr, bnd_v, wallAt_out hA g1 g2 g5 g8 g11 hv', bnd_t]
theorem k_seen_n {r n w : Nat} {x y : Int32} (h : INV A iv rv np nr nl) (hr : r < 4) (hn4 : n ≤ 4) (hn : iv 12 r 2 = nI n) (hw : w < n) (hb : rv 12 r 3 = none) : F_X7_seen (A.1 0 0) (nI r) (nI w) x y (z, hv A iv rv ov) = rtv (-1) (z, hv A iv rv ov) := by
  have hA := h.1
  obtain ⟨⟨t0, -⟩, -⟩ := id h.2.1
  obtain ⟨g1, g2, g3, g4, g5, g6, g7, n', g8, g9, g11, g12, g13, g14⟩ := h.2.2.2.2.2.2 r hr
  have en : n' = n := nI_inj (by omega) (by omega) (g9.symm.trans hn)
  subst en
  unfold F_X7_seen
  rw [isO_hv hA t0 (by rfl) (by decide), roomAt_in h hr, bnd_v, wallAt_in hA g1 g2 g5 g8 g11 hw, bnd_v, gfR_hv hA g1 (by rfl) (by decide) (by rfl), hb, rfv_n, nlc_n]
theorem k_seen_w {r n : Nat} {v x y : Int32} (h : INV A iv rv np nr nl) (hr : r < 4) (hn4 : n ≤ 4) (hn : iv 12 r 2 = nI n) (hv' : ¬ ∃ w, w < n ∧ v = nI w) : F_X7_seen (A.1 0 0) (nI r) v x y (z, hv A iv rv ov) = tht IX (z, hv A iv rv ov) := by
  have hA := h.1
  obtain ⟨⟨t0, -⟩, -⟩ := id h.2.1
  obtain ⟨g1, g2, g3, g4, g5, g6, g7, n', g8, g9, g11, g12, g13, g14⟩ := h.2.2.2.2.2.2 r hr
  have en : n' = n := nI_inj (by omega) (by omega) (g9.symm.trans hn)
  subst en
  unfold F_X7_seen
  rw [isO_hv hA t0 (by rfl) (by decide), roomAt_in h hr, bnd_v, wallAt_out hA g1 g2 g5 g8 g11 hv', bnd_t]
end RD
/-! room: its sums -/
section RM
variable {A : Adr} {iv : IVt} {rv : RVt} {ov : Nat → Int64} {z np nr nl r n : Nat}
theorem drops13 (hA : IN A) (h13 : A.2.2 13 r = true) (hn : n ≤ 4) (hw : ∀ w, w < 4 → rv 13 r w = if w < n then some (16, 4 * r + w) else none) (hl : ∀ w, w < n → A.2.2 16 (4 * r + w) = true) : ∀ m j, j ≤ 4 → 4 < j + m → F_X5_allDrops_b13 m (isum (fun w => iv 16 (4 * r + w) 2) (min j n)) (some (A.1 13 r)) (nI 4) (nI j) (z, hv A iv rv ov) = rtv (isum (fun w => iv 16 (4 * r + w) 2) n) (z, hv A iv rv ov) := by
  intro m
  induction m with
  | zero => intro j a b; omega
  | succ m ih =>
    intro j hj hm
    unfold F_X5_allDrops_b13
    by_cases q : 4 ≤ j
    · rw [if_pos (nI_le q (by omega)), show min j n = n by omega]
    · rw [if_neg (nI_ge (by omega) (by omega)), nn_s, aldR_hv (q := 4) hA h13 (by rfl) (show j < 4 by omega), hw j (by omega)]
      unfold F_X5_allDrops_b40
      have i := ih (j + 1) (by omega) (by omega)
      by_cases g : j < n
      · rw [if_pos g, rfv_s, nlc_s, gfI_hv hA (hl j g) (by rfl) (by decide) (by rfl), nI_1]
        rw [show min (j + 1) n = j + 1 by omega] at i
        rw [show min j n = j by omega]
        exact i
      · rw [if_neg g, rfv_n, nlc_n, Int32.add_zero, nI_1]
        rw [show min (j + 1) n = n by omega] at i
        rw [show min j n = n by omega]
        exact i
theorem drops_spec (hA : IN A) (h12 : A.2.2 12 r = true) (h13 : A.2.2 13 r = true) (hr : rv 12 r 0 = some (13, r)) (hn : n ≤ 4) (hw : ∀ w, w < 4 → rv 13 r w = if w < n then some (16, 4 * r + w) else none) (hl : ∀ w, w < n → A.2.2 16 (4 * r + w) = true) : F_X5_allDrops (A.1 12 r) (z, hv A iv rv ov) = rtv (isum (fun w => iv 16 (4 * r + w) 2) n) (z, hv A iv rv ov) := by
  unfold F_X5_allDrops
  rw [gfR_hv hA h12 (by rfl) (by decide) (by rfl), hr, rfv_s, nn_s, alen_R (k := 4) hA h13 (by rfl) (by decide), show kn 13 = 4 from rfl]
  have i := drops13 (ov := ov) (z := z) (iv := iv) hA h13 hn hw hl 1000 0 (by omega) (by omega)
  rw [show min 0 n = 0 by omega] at i
  exact i
theorem waste36 {X : Int32} (hA : IN A) (h13 : A.2.2 13 r = true) (hn : n ≤ 4) (hw : ∀ w, w < 4 → rv 13 r w = if w < n then some (16, 4 * r + w) else none) (hl : ∀ w, w < n → A.2.2 16 (4 * r + w) = true) : ∀ m j, j ≤ 4 → 4 < j + m → F_X5_waste_b36 m (X - isum (fun w => iv 16 (4 * r + w) 2 * iv 16 (4 * r + w) 0) (min j n)) (some (A.1 13 r)) (nI 4) (nI j) (z, hv A iv rv ov) = rtv (X - isum (fun w => iv 16 (4 * r + w) 2 * iv 16 (4 * r + w) 0) n) (z, hv A iv rv ov) := by
  intro m
  induction m with
  | zero => intro j a b; omega
  | succ m ih =>
    intro j hj hm
    unfold F_X5_waste_b36
    by_cases q : 4 ≤ j
    · rw [if_pos (nI_le q (by omega)), show min j n = n by omega]
    · rw [if_neg (nI_ge (by omega) (by omega)), nn_s, aldR_hv (q := 4) hA h13 (by rfl) (show j < 4 by omega), hw j (by omega)]
      unfold F_X5_waste_b69
      have i := ih (j + 1) (by omega) (by omega)
      by_cases g : j < n
      · rw [if_pos g, rfv_s, nlc_s, gfI_hv hA (hl j g) (by rfl) (by decide) (by rfl), gfI_hv hA (hl j g) (by rfl) (by decide) (by rfl), nI_1, Int32.sub_sub]
        rw [show min (j + 1) n = j + 1 by omega] at i
        rw [show min j n = j by omega]
        exact i
      · rw [if_neg g, rfv_n, nlc_n, Int32.sub_zero, nI_1]
        rw [show min (j + 1) n = n by omega] at i
        rw [show min j n = n by omega]
        exact i
theorem room_live (h : INV A iv rv np nr nl) (hr : r < 4) (hn4 : n ≤ 4) (hn : iv 12 r 2 = nI n) : ∀ w, w < n → A.2.2 16 (4 * r + w) = true := by
  obtain ⟨g1, g2, g3, g4, g5, g6, g7, n', g8, g9, g11, g12, g13, g14⟩ := h.2.2.2.2.2.2 r hr
  have en : n' = n := nI_inj (by omega) (by omega) (g9.symm.trans hn)
  subst en
  intro w hw
  obtain ⟨d, hh, w1, w2, -⟩ := g13 w hw
  exact w2
theorem k_room0 (h : INV A iv rv np nr nl) (hr : r < 4) : F_X7_room (A.1 0 0) (nI r) 0 (z, hv A iv rv ov) = rtv (iv 12 r 2) (z, hv A iv rv ov) := by
  have hA := h.1
  obtain ⟨⟨t0, -⟩, -⟩ := id h.2.1
  obtain ⟨g1, -⟩ := h.2.2.2.2.2.2 r hr
  unfold F_X7_room
  rw [isO_hv hA t0 (by rfl) (by decide), roomAt_in h hr, bnd_v, if_pos (by decide), gfI_hv hA g1 (by rfl) (by decide) (by rfl)]
theorem k_room1 (h : INV A iv rv np nr nl) (hr : r < 4) (hn4 : n ≤ 4) (hn : iv 12 r 2 = nI n) : F_X7_room (A.1 0 0) (nI r) 1 (z, hv A iv rv ov) = rtv (isum (fun w => iv 16 (4 * r + w) 2) n) (z, hv A iv rv ov) := by
  have hl := room_live h hr hn4 hn
  have hA := h.1
  obtain ⟨⟨t0, -⟩, -⟩ := id h.2.1
  obtain ⟨g1, g2, g3, g4, g5, g6, g7, n', g8, g9, g11, g12, g13, g14⟩ := h.2.2.2.2.2.2 r hr
  have en : n' = n := nI_inj (by omega) (by omega) (g9.symm.trans hn)
  subst en
  unfold F_X7_room
  rw [isO_hv hA t0 (by rfl) (by decide), roomAt_in h hr, bnd_v, if_neg (by decide), if_pos (by decide), isO_hv hA g1 (by rfl) (by decide), drops_spec hA g1 g2 g5 g8 g11 hl, bnd_v]
/-- a bare room -/
theorem k_roomN {k : Nat} (h : INV A iv rv np nr nl) (hr : r < 4) (b1 : rv 12 r 3 = none) (hk : k = 2 ∨ k = 3 ∨ k = 4 ∨ k = 5) : F_X7_room (A.1 0 0) (nI r) (nI k) (z, hv A iv rv ov) = rtv (-1) (z, hv A iv rv ov) := by
  have hA := h.1
  obtain ⟨⟨t0, -⟩, -⟩ := id h.2.1
  obtain ⟨g1, -⟩ := h.2.2.2.2.2.2 r hr
  unfold F_X7_room
  rw [isO_hv hA t0 (by rfl) (by decide), roomAt_in h hr, bnd_v]
  rcases hk with rfl | rfl | rfl | rfl
  · rw [if_neg (by decide), if_neg (by decide), if_pos (by decide), isO_hv hA g1 (by rfl) (by decide), cHung_n hA g1 b1, bnd_v, if_pos rfl]
  · rw [if_neg (by decide), if_neg (by decide), if_neg (by decide), if_pos (by decide), isO_hv hA g1 (by rfl) (by decide), cHung_n hA g1 b1, bnd_v, if_pos rfl]
  · rw [if_neg (by decide), if_neg (by decide), if_neg (by decide), if_neg (by decide), if_pos (by decide), isO_hv hA g1 (by rfl) (by decide), cHung_n hA g1 b1, bnd_v, if_pos rfl]
  · rw [if_neg (by decide), if_neg (by decide), if_neg (by decide), if_neg (by decide), if_neg (by decide), if_pos (by decide), isO_hv hA g1 (by rfl) (by decide)]
    unfold F_X5_waste
    rw [gfR_hv hA g1 (by rfl) (by decide) (by rfl), b1, rfv_n, nlc_n, bnd_v]
/-- a hung one -/
theorem k_roomS {k l : Nat} (h : INV A iv rv np nr nl) (hr : r < 4) (b2 : rv 12 r 3 = some (11, l)) (hk : k = 2 ∨ k = 3 ∨ k = 4) : F_X7_room (A.1 0 0) (nI r) (nI k) (z, hv A iv rv ov) = rtv (if k = 2 then iv 12 r 4 else if k = 3 then iv 14 r 5 else iv 14 r 1) (z, hv A iv rv ov) := by
  have hA := h.1
  obtain ⟨⟨t0, -⟩, -⟩ := id h.2.1
  obtain ⟨g1, g2, g3, g4, g5, g6, g7, -⟩ := h.2.2.2.2.2.2 r hr
  unfold F_X7_room
  rw [isO_hv hA t0 (by rfl) (by decide), roomAt_in h hr, bnd_v]
  rcases hk with rfl | rfl | rfl
  · rw [if_neg (by decide), if_neg (by decide), if_pos (by decide), isO_hv hA g1 (by rfl) (by decide), cHung_s hA g1 b2, bnd_v, if_neg (by decide), gfI_hv hA g1 (by rfl) (by decide) (by rfl)]
    rfl
  · rw [if_neg (by decide), if_neg (by decide), if_neg (by decide), if_pos (by decide), isO_hv hA g1 (by rfl) (by decide), cHung_s hA g1 b2, bnd_v, if_neg (by decide), gfR_hv hA g1 (by rfl) (by decide) (by rfl), g6, rfv_s, nn_s, gfI_hv hA g3 (by rfl) (by decide) (by rfl)]
    rfl
  · rw [if_neg (by decide), if_neg (by decide), if_neg (by decide), if_neg (by decide), if_pos (by decide), isO_hv hA g1 (by rfl) (by decide), cHung_s hA g1 b2, bnd_v, if_neg (by decide), gfR_hv hA g1 (by rfl) (by decide) (by rfl), g6, rfv_s, nn_s, gfI_hv hA g3 (by rfl) (by decide) (by rfl)]
    rfl
theorem k_room5 {l : Nat} (h : INV A iv rv np nr nl) (hr : r < 4) (hn4 : n ≤ 4) (hn : iv 12 r 2 = nI n) (hl9 : l < nl) (b2 : rv 12 r 3 = some (11, l)) : F_X7_room (A.1 0 0) (nI r) 5 (z, hv A iv rv ov) = rtv (iv 14 r 1 * iv 11 l 3 - isum (fun w => iv 16 (4 * r + w) 2 * iv 16 (4 * r + w) 0) n) (z, hv A iv rv ov) := by
  have hl := room_live h hr hn4 hn
  have hA := h.1
  obtain ⟨⟨t0, -⟩, -⟩ := id h.2.1
  obtain ⟨g1, g2, g3, g4, g5, g6, g7, n', g8, g9, g11, g12, g13, g14⟩ := h.2.2.2.2.2.2 r hr
  have en : n' = n := nI_inj (by omega) (by omega) (g9.symm.trans hn)
  subst en
  obtain ⟨q, k, L, p1, p2, p3, -⟩ := h.2.2.2.2.2.1 l hl9
  unfold F_X7_room
  rw [isO_hv hA t0 (by rfl) (by decide), roomAt_in h hr, bnd_v, if_neg (by decide), if_neg (by decide), if_neg (by decide), if_neg (by decide), if_neg (by decide), if_pos (by decide), isO_hv hA g1 (by rfl) (by decide)]
  unfold F_X5_waste
  rw [gfR_hv hA g1 (by rfl) (by decide) (by rfl), b2, rfv_s, nlc_s, gfR_hv hA g1 (by rfl) (by decide) (by rfl), g6, rfv_s, nn_s, gfI_hv hA g3 (by rfl) (by decide) (by rfl), gfR_hv hA g1 (by rfl) (by decide) (by rfl), b2, rfv_s, nn_s, gfI_hv hA p3 (by rfl) (by decide) (by rfl), gfR_hv hA g1 (by rfl) (by decide) (by rfl), g5, rfv_s, nn_s, alen_R (k := 4) hA g2 (by rfl) (by decide), show kn 13 = 4 from rfl]
  have w36 := waste36 (X := iv 14 r 1 * iv 11 l 3) (ov := ov) (z := z) (iv := iv) hA g2 g8 g11 hl 1000 0 (by omega) (by omega)
  rw [show min 0 n' = 0 by omega, show isum (fun w => iv 16 (4 * r + w) 2 * iv 16 (4 * r + w) 0) 0 = 0 from rfl, Int32.sub_zero] at w36
  refine (congrArg (fun q => bnd q _) w36).trans ?_
  rfl
theorem k_room_x {v w : Int32} (h : INV A iv rv np nr nl) (hx : ¬ ∃ j, j < 4 ∧ v = nI j) : F_X7_room (A.1 0 0) v w (z, hv A iv rv ov) = tht IX (z, hv A iv rv ov) := by
  have hA := h.1
  obtain ⟨⟨t0, -⟩, -⟩ := id h.2.1
  unfold F_X7_room
  rw [isO_hv hA t0 (by rfl) (by decide), roomAt_out h hx, bnd_t]
theorem k_room_w {w : Int32} (h : INV A iv rv np nr nl) (hr : r < 4) (hw : ¬ inR w 0 (nI 5)) : F_X7_room (A.1 0 0) (nI r) w (z, hv A iv rv ov) = tht IA (z, hv A iv rv ov) := by
  have hA := h.1
  obtain ⟨⟨t0, -⟩, -⟩ := id h.2.1
  have e := rg5_ne (by decide) hw
  unfold F_X7_room
  rw [isO_hv hA t0 (by rfl) (by decide), roomAt_in h hr, bnd_v, if_neg (show ¬ w = 0 from e 0 (by decide)), if_neg (show ¬ w = 1 from e 1 (by decide)), if_neg (show ¬ w = 2 from e 2 (by decide)), if_neg (show ¬ w = 3 from e 3 (by decide)), if_neg (show ¬ w = 4 from e 4 (by decide)), if_neg (show ¬ w = 5 from e 5 (by decide))]
end RM
