/-! the rooms' part over heaps that agree where it looks; what is found at an index -/
theorem HUNG.to {iv iv' : IVt} {rv rv' : RVt} {r n l : Nat} (hP : HUNG iv rv r n l) (hr : rv' 11 l 0 = rv 11 l 0) (h12 : ∀ j, iv' 12 r j = iv 12 r j) (h14 : ∀ j, iv' 14 r j = iv 14 r j) (h15 : ∀ j, iv' 15 r j = iv 15 r j) (h35 : iv' 35 0 r = iv 35 0 r) (h36 : iv' 36 0 r = iv 36 0 r) (h37 : iv' 37 0 r = iv 37 0 r) (h38 : ∀ k, k < 20 → iv' 38 0 (20 * r + k) = iv 38 0 (20 * r + k)) (h113 : iv' 11 l 3 = iv 11 l 3) (h114 : ∀ k, iv 11 l 4 = nI k → ∃ k', k' ≤ k ∧ iv' 11 l 4 = nI k') (h9 : ∀ q, rv 11 l 0 = some (8, q) → iv' 9 q 1 = iv 9 q 1) (hC : ∀ R ph, CUTS iv r n R ph → CUTS iv' r n R ph) : HUNG iv' rv' r n l := by
  obtain ⟨o, ph, L, R, k, q, g1, g2, g3, g4, g5, g6, g7, g8, g9, g10, g11, g12, g13, g14, g15, g16, g17, g18⟩ := hP
  obtain ⟨k', q1, q2⟩ := h114 k g5
  refine ⟨o, ph, L, R, k', q, (h12 4).trans g1, h35.trans g2, (h14 1).trans g3, h37.trans g4, q2, by omega, (h14 5).trans g7, h36.trans g8, (h14 3).trans g9, h113.trans g10, g11, (h14 4).trans g12, hr.trans g13, (h9 q g13).trans g14, g15, g16, fun j hj => ?_, hC _ _ g18⟩
  rw [h15, h38 j (by omega)]
  exact g17 j hj
theorem ROOM.to {A A' : Adr} {iv iv' : IVt} {rv rv' : RVt} {nl nl' r : Nat} (hP : ROOM A iv rv nl r) (hn : nl ≤ nl') (hl : ∀ T i, A.2.2 T i = true → A'.2.2 T i = true) (hd : ∀ w, w < 4 → A.2.2 16 (4 * r + w) = false ∧ A.2.2 17 (4 * r + w) = false → A'.2.2 16 (4 * r + w) = false ∧ A'.2.2 17 (4 * r + w) = false)
    (hr12 : ∀ j, rv' 12 r j = rv 12 r j) (hr14 : rv' 14 r 0 = rv 14 r 0) (hr13 : ∀ w, w < 4 → rv' 13 r w = rv 13 r w) (hr16 : ∀ w, w < 4 → rv' 16 (4 * r + w) 1 = rv 16 (4 * r + w) 1) (hr11 : ∀ l, l < nl → rv' 11 l 0 = rv 11 l 0) (h12 : ∀ j, iv' 12 r j = iv 12 r j) (h14 : ∀ j, iv' 14 r j = iv 14 r j) (h15 : ∀ j, iv' 15 r j = iv 15 r j) (h16 : ∀ w j, w < 4 → iv' 16 (4 * r + w) j = iv 16 (4 * r + w) j) (h17 : ∀ w j, w < 4 → iv' 17 (4 * r + w) j = iv 17 (4 * r + w) j)
    (h32 : iv' 32 0 r = iv 32 0 r) (h33 : ∀ w, w < 4 → iv' 33 0 (4 * r + w) = iv 33 0 (4 * r + w)) (h34 : ∀ w, w < 4 → iv' 34 0 (4 * r + w) = iv 34 0 (4 * r + w)) (h35 : iv' 35 0 r = iv 35 0 r) (h36 : iv' 36 0 r = iv 36 0 r) (h37 : iv' 37 0 r = iv 37 0 r) (h38 : ∀ k, k < 20 → iv' 38 0 (20 * r + k) = iv 38 0 (20 * r + k))
    (h40 : ∀ w d, w < 4 → d < 24 → iv' 40 0 (24 * (4 * r + w) + d) = iv 40 0 (24 * (4 * r + w) + d)) (h41 : ∀ w d, w < 4 → d < 24 → iv' 41 0 (24 * (4 * r + w) + d) = iv 41 0 (24 * (4 * r + w) + d)) (h113 : ∀ l, l < nl → iv' 11 l 3 = iv 11 l 3) (h114 : ∀ l k, l < nl → iv 11 l 4 = nI k → ∃ k', k' ≤ k ∧ iv' 11 l 4 = nI k') (h9 : ∀ l q, l < nl → rv 11 l 0 = some (8, q) → iv' 9 q 1 = iv 9 q 1) : ROOM A' iv' rv' nl' r := by
  obtain ⟨g1, g2, g3, g4, g5, g6, g7, n, g8, g9, g10, g11, g12, g13, g14⟩ := hP
  refine ⟨hl _ _ g1, hl _ _ g2, hl _ _ g3, hl _ _ g4, (hr12 0).trans g5, (hr12 1).trans g6, hr14.trans g7, n, g8, (h12 2).trans g9, h32.trans g10, fun w hw => (hr13 w hw).trans (g11 w hw), fun w hw1 hw2 => hd w hw2 (g12 w hw1 hw2), fun w hw => (g13 w hw).to hl (hr16 w (by omega)) (fun j => h16 w j (by omega)) (h33 w (by omega)) (h34 w (by omega)), ?_⟩
  rcases g14 with ⟨a, b⟩ | ⟨l, a, b, c⟩
  · exact Or.inl ⟨(hr12 3).trans a, h35.trans b⟩
  · exact Or.inr ⟨l, by omega, (hr12 3).trans b, c.to (hr11 l a) h12 h14 h15 h35 h36 h37 h38 (h113 l a) (fun k => h114 l k a) (fun q => h9 l q a) (fun R ph hC => hC.to (fun w hw => h16 w 2 (by omega)) (fun w j hw => h17 w j (by omega)) (fun w d hw hd => h40 w d (by omega) hd) (fun w d hw hd => h41 w d (by omega) hd))⟩
theorem CNT.to {iv iv' : IVt} {np nr nl : Nat} (h : CNT iv np nr nl) (h0 : ∀ j, iv' 0 0 j = iv 0 0 j) (h1 : iv' 20 0 1 = iv 20 0 1) (h6 : iv' 20 0 6 = iv 20 0 6) (h10 : iv' 20 0 10 = iv 20 0 10) (h28 : iv' 20 0 28 = iv 20 0 28) (h24 : ∀ k, 25 * np ≤ k → iv' 24 0 k = iv 24 0 k) : CNT iv' np nr nl := by
  obtain ⟨g1, g2, g3, g4, g5, g6, g7, g8, g9, g10, g11⟩ := h
  exact ⟨(h0 1).trans g1, h1.trans g2, g3, (h0 3).trans g4, h6.trans g5, g6, (h0 5).trans g7, h10.trans g8, g9, by rw [h28, h0, g10], fun k hk => (h24 k hk).trans (g11 k hk)⟩
/-- the invariant doesn't look at the reference's scratch -/
theorem INV.same {A : Adr} {iv iv' : IVt} {rv : RVt} {np nr nl : Nat} (h : INV A iv rv np nr nl) (hs : ∀ T i j, ¬ (T = 20 ∧ (j = 0 ∨ j = 23 ∨ j = 24 ∨ j = 25)) → T ≠ 39 → iv' T i j = iv T i j) : INV A iv' rv np nr nl := by
  obtain ⟨g1, g2, g3, g4, g5, g6, g7⟩ := h
  have e : ∀ T i j, T ≠ 20 → T ≠ 39 → iv' T i j = iv T i j := fun T i j a b => hs T i j (fun q => a q.1) b
  have f : ∀ j, j ≠ 0 → j ≠ 23 → j ≠ 24 → j ≠ 25 → iv' 20 0 j = iv 20 0 j := fun j a b c d => hs 20 0 j (fun q => by omega) (by decide)
  refine ⟨g1, g2, g3.to (fun j => e _ _ _ (by decide) (by decide)) (f _ (by decide) (by decide) (by decide) (by decide)) (f _ (by decide) (by decide) (by decide) (by decide)) (f _ (by decide) (by decide) (by decide) (by decide)) (f _ (by decide) (by decide) (by decide) (by decide)) (fun k _ => e _ _ _ (by decide) (by decide)), fun i hi => (g4 i hi).to (fun _ _ q => q) rfl rfl ?_ ?_ ?_ ?_ ?_ ?_ ?_, fun i hi => (g5 i hi).to (Nat.le_refl _) (fun _ _ q => q) rfl rfl ?_ ?_ ?_ ?_ ?_ ?_ ?_ ?_ ?_ ?_, fun i hi => (g6 i hi).to (Nat.le_refl _) (fun _ _ q => q) rfl ?_ ?_ ?_ ?_ ?_, fun r hr => (g7 r hr).to (Nat.le_refl _) (fun _ _ q => q) (fun _ _ q => q) (fun _ => rfl) rfl (fun _ _ => rfl) (fun _ _ => rfl) (fun _ _ => rfl) ?_ ?_ ?_ ?_ ?_ ?_ ?_ ?_ ?_ ?_ ?_ ?_ ?_ ?_ ?_ (fun l k _ hk => ⟨k, Nat.le_refl _, (e _ _ _ (by decide) (by decide)).trans hk⟩) ?_⟩ <;> intros <;> exact e _ _ _ (by decide) (by decide)
section AC
variable {A : Adr} {iv : IVt} {rv : RVt} {ov : Nat → Int64} {z np nr nl : Nat}
theorem INV.ref (h : INV A iv rv np nr nl) (k : Int32) : INV A (u3 iv 20 0 0 k) rv np nr nl := h.same (fun T i j a b => u3_n (fun q => a ⟨q.1, Or.inl q.2.2⟩))
theorem patAt_in {j : Nat} (h : INV A iv rv np nr nl) (hj : j < np) : F_X7_patternAt (A.1 0 0) (nI j) (z, hv A iv rv ov) = rtv (A.1 5 j) (z, hv A iv rv ov) := by
  obtain ⟨hM, ⟨⟨t0, t1, t2, t3, t4⟩, ⟨w0, w1, w2, w3⟩, w4, w5, w6, w7, -⟩, ⟨c1, c2, c3, -⟩, -⟩ := h
  have hA := hM.1
  unfold F_X7_patternAt
  rw [if_neg (nI_pos (by omega)), gfR_hv hA t0 (by rfl) (by decide) (by rfl), w0, rfv_s, nn_s, alen_R (k := 0) hA t1 (by rfl) (by decide), show kn 1 = 6 from rfl, if_pos (nI_lt (show j < 6 by omega) (by decide)), gfR_hv hA t0 (by rfl) (by decide) (by rfl), w0, rfv_s, nn_s, aldR_hv (q := 0) hA t1 (by rfl) (show j < 6 by omega), w4 j (by omega), if_pos hj]
  rfl
theorem patAt_out {x : Int32} (h : INV A iv rv np nr nl) (hx : ¬ ∃ j, j < np ∧ x = nI j) : F_X7_patternAt (A.1 0 0) x (z, hv A iv rv ov) = tht "java/lang/IndexOutOfBoundsException" (z, hv A iv rv ov) := by
  obtain ⟨hM, ⟨⟨t0, t1, t2, t3, t4⟩, ⟨w0, w1, w2, w3⟩, w4, w5, w6, w7, -⟩, ⟨c1, c2, c3, -⟩, -⟩ := h
  have hA := hM.1
  unfold F_X7_patternAt F_X7_patternAt_b13 F_X7_patternAt_b23
  rcases pk_ix x (n := 6) (by decide) with q | q | ⟨j, hj, rfl⟩
  · rw [if_pos q]
    rfl
  · by_cases q0 : x < 0
    · rw [if_pos q0]
      rfl
    rw [if_neg q0, gfR_hv hA t0 (by rfl) (by decide) (by rfl), w0, rfv_s, nn_s, alen_R (k := 0) hA t1 (by rfl) (by decide), show kn 1 = 6 from rfl, if_neg (Int32.not_lt.mpr q)]
    rfl
  · rw [if_neg (nI_pos (by omega)), gfR_hv hA t0 (by rfl) (by decide) (by rfl), w0, rfv_s, nn_s, alen_R (k := 0) hA t1 (by rfl) (by decide), show kn 1 = 6 from rfl, if_pos (nI_lt (show j < 6 by omega) (by decide)), gfR_hv hA t0 (by rfl) (by decide) (by rfl), w0, rfv_s, nn_s, aldR_hv (q := 0) hA t1 (by rfl) (show j < 6 by omega), w4 j (by omega), if_neg (fun q => hx ⟨j, q, rfl⟩)]
    rfl
theorem rolAt_in {j : Nat} (h : INV A iv rv np nr nl) (hj : j < nr) : F_X7_rollerAt (A.1 0 0) (nI j) (z, hv A iv rv ov) = rtv (A.1 8 j) (z, hv A iv rv ov) := by
  obtain ⟨hM, ⟨⟨t0, t1, t2, t3, t4⟩, ⟨w0, w1, w2, w3⟩, w4, w5, w6, w7, -⟩, ⟨-, -, -, c1, c2, c3, -⟩, -⟩ := h
  have hA := hM.1
  unfold F_X7_rollerAt
  rw [if_neg (nI_pos (by omega)), gfR_hv hA t0 (by rfl) (by decide) (by rfl), w1, rfv_s, nn_s, alen_R (k := 1) hA t2 (by rfl) (by decide), show kn 2 = 8 from rfl, if_pos (nI_lt (show j < 8 by omega) (by decide)), gfR_hv hA t0 (by rfl) (by decide) (by rfl), w1, rfv_s, nn_s, aldR_hv (q := 1) hA t2 (by rfl) (show j < 8 by omega), w5 j (by omega), if_pos hj]
  rfl
theorem rolAt_out {x : Int32} (h : INV A iv rv np nr nl) (hx : ¬ ∃ j, j < nr ∧ x = nI j) : F_X7_rollerAt (A.1 0 0) x (z, hv A iv rv ov) = tht "java/lang/IndexOutOfBoundsException" (z, hv A iv rv ov) := by
  obtain ⟨hM, ⟨⟨t0, t1, t2, t3, t4⟩, ⟨w0, w1, w2, w3⟩, w4, w5, w6, w7, -⟩, -⟩ := h
  have hA := hM.1
  unfold F_X7_rollerAt F_X7_rollerAt_b13 F_X7_rollerAt_b23
  rcases pk_ix x (n := 8) (by decide) with q | q | ⟨j, hj, rfl⟩
  · rw [if_pos q]
    rfl
  · by_cases q0 : x < 0
    · rw [if_pos q0]
      rfl
    rw [if_neg q0, gfR_hv hA t0 (by rfl) (by decide) (by rfl), w1, rfv_s, nn_s, alen_R (k := 1) hA t2 (by rfl) (by decide), show kn 2 = 8 from rfl, if_neg (Int32.not_lt.mpr q)]
    rfl
  · rw [if_neg (nI_pos (by omega)), gfR_hv hA t0 (by rfl) (by decide) (by rfl), w1, rfv_s, nn_s, alen_R (k := 1) hA t2 (by rfl) (by decide), show kn 2 = 8 from rfl, if_pos (nI_lt (show j < 8 by omega) (by decide)), gfR_hv hA t0 (by rfl) (by decide) (by rfl), w1, rfv_s, nn_s, aldR_hv (q := 1) hA t2 (by rfl) (show j < 8 by omega), w5 j (by omega), if_neg (fun q => hx ⟨j, q, rfl⟩)]
    rfl
theorem lotAt_in {j : Nat} (h : INV A iv rv np nr nl) (hj : j < nl) : F_X7_lotAt (A.1 0 0) (nI j) (z, hv A iv rv ov) = rtv (A.1 11 j) (z, hv A iv rv ov) := by
  obtain ⟨hM, ⟨⟨t0, t1, t2, t3, t4⟩, ⟨w0, w1, w2, w3⟩, w4, w5, w6, w7, -⟩, ⟨-, -, -, -, -, -, c1, c2, c3, -⟩, -⟩ := h
  have hA := hM.1
  unfold F_X7_lotAt
  rw [if_neg (nI_pos (by omega)), gfR_hv hA t0 (by rfl) (by decide) (by rfl), w2, rfv_s, nn_s, alen_R (k := 2) hA t3 (by rfl) (by decide), show kn 3 = 10 from rfl, if_pos (nI_lt (show j < 10 by omega) (by decide)), gfR_hv hA t0 (by rfl) (by decide) (by rfl), w2, rfv_s, nn_s, aldR_hv (q := 2) hA t3 (by rfl) (show j < 10 by omega), w6 j (by omega), if_pos hj]
  rfl
theorem lotAt_out {x : Int32} (h : INV A iv rv np nr nl) (hx : ¬ ∃ j, j < nl ∧ x = nI j) : F_X7_lotAt (A.1 0 0) x (z, hv A iv rv ov) = tht "java/lang/IndexOutOfBoundsException" (z, hv A iv rv ov) := by
  obtain ⟨hM, ⟨⟨t0, t1, t2, t3, t4⟩, ⟨w0, w1, w2, w3⟩, w4, w5, w6, w7, -⟩, -⟩ := h
  have hA := hM.1
  unfold F_X7_lotAt F_X7_lotAt_b13 F_X7_lotAt_b23
  rcases pk_ix x (n := 10) (by decide) with q | q | ⟨j, hj, rfl⟩
  · rw [if_pos q]
    rfl
  · by_cases q0 : x < 0
    · rw [if_pos q0]
      rfl
    rw [if_neg q0, gfR_hv hA t0 (by rfl) (by decide) (by rfl), w2, rfv_s, nn_s, alen_R (k := 2) hA t3 (by rfl) (by decide), show kn 3 = 10 from rfl, if_neg (Int32.not_lt.mpr q)]
    rfl
  · rw [if_neg (nI_pos (by omega)), gfR_hv hA t0 (by rfl) (by decide) (by rfl), w2, rfv_s, nn_s, alen_R (k := 2) hA t3 (by rfl) (by decide), show kn 3 = 10 from rfl, if_pos (nI_lt (show j < 10 by omega) (by decide)), gfR_hv hA t0 (by rfl) (by decide) (by rfl), w2, rfv_s, nn_s, aldR_hv (q := 2) hA t3 (by rfl) (show j < 10 by omega), w6 j (by omega), if_neg (fun q => hx ⟨j, q, rfl⟩)]
    rfl
theorem roomAt_in {j : Nat} (h : INV A iv rv np nr nl) (hj : j < 4) : F_X7_roomAt (A.1 0 0) (nI j) (z, hv A iv rv ov) = rtv (A.1 12 j) (z, hv A iv rv ov) := by
  obtain ⟨hM, ⟨⟨t0, t1, t2, t3, t4⟩, ⟨w0, w1, w2, w3⟩, w4, w5, w6, w7, -⟩, -⟩ := h
  have hA := hM.1
  unfold F_X7_roomAt
  rw [if_neg (nI_pos (by omega)), gfR_hv hA t0 (by rfl) (by decide) (by rfl), w3, rfv_s, nn_s, alen_R (k := 3) hA t4 (by rfl) (by decide), show kn 4 = 4 from rfl, if_pos (nI_lt (show j < 4 by omega) (by decide)), gfR_hv hA t0 (by rfl) (by decide) (by rfl), w3, rfv_s, nn_s, aldR_hv (q := 3) hA t4 (by rfl) (show j < 4 by omega), w7 j (by omega)]
  rfl
theorem roomAt_out {x : Int32} (h : INV A iv rv np nr nl) (hx : ¬ ∃ j, j < 4 ∧ x = nI j) : F_X7_roomAt (A.1 0 0) x (z, hv A iv rv ov) = tht "java/lang/IndexOutOfBoundsException" (z, hv A iv rv ov) := by
  obtain ⟨hM, ⟨⟨t0, t1, t2, t3, t4⟩, ⟨w0, w1, w2, w3⟩, w4, w5, w6, w7, -⟩, -⟩ := h
  have hA := hM.1
  unfold F_X7_roomAt F_X7_roomAt_b13 F_X7_roomAt_b23
  rcases pk_ix x (n := 4) (by decide) with q | q | ⟨j, hj, rfl⟩
  · rw [if_pos q]
    rfl
  · by_cases q0 : x < 0
    · rw [if_pos q0]
      rfl
    rw [if_neg q0, gfR_hv hA t0 (by rfl) (by decide) (by rfl), w3, rfv_s, nn_s, alen_R (k := 3) hA t4 (by rfl) (by decide), show kn 4 = 4 from rfl, if_neg (Int32.not_lt.mpr q)]
    rfl
  · exact absurd ⟨j, hj, rfl⟩ hx
/-- a room's wall -/
theorem wallAt_in {r n w : Nat} (hA : IN A) (h12 : A.2.2 12 r = true) (h13 : A.2.2 13 r = true) (hr : rv 12 r 0 = some (13, r)) (hn : n ≤ 4) (hw : ∀ w, w < 4 → rv 13 r w = if w < n then some (16, 4 * r + w) else none) (hj : w < n) : F_X7_wallAt (A.1 12 r) (nI w) (z, hv A iv rv ov) = rtv (A.1 16 (4 * r + w)) (z, hv A iv rv ov) := by
  unfold F_X7_wallAt
  rw [if_neg (nI_pos (by omega)), gfR_hv hA h12 (by rfl) (by decide) (by rfl), hr, rfv_s, nn_s, alen_R (k := 4) hA h13 (by rfl) (by decide), show kn 13 = 4 from rfl, if_pos (nI_lt (show w < 4 by omega) (by decide)), gfR_hv hA h12 (by rfl) (by decide) (by rfl), hr, rfv_s, nn_s, aldR_hv (q := 4) hA h13 (by rfl) (show w < 4 by omega), hw w (by omega), if_pos hj]
  rfl
theorem wallAt_out {r n : Nat} {x : Int32} (hA : IN A) (h12 : A.2.2 12 r = true) (h13 : A.2.2 13 r = true) (hr : rv 12 r 0 = some (13, r)) (hn : n ≤ 4) (hw : ∀ w, w < 4 → rv 13 r w = if w < n then some (16, 4 * r + w) else none) (hx : ¬ ∃ j, j < n ∧ x = nI j) : F_X7_wallAt (A.1 12 r) x (z, hv A iv rv ov) = tht "java/lang/IndexOutOfBoundsException" (z, hv A iv rv ov) := by
  unfold F_X7_wallAt F_X7_wallAt_b13 F_X7_wallAt_b23
  rcases pk_ix x (n := 4) (by decide) with q | q | ⟨j, hj, rfl⟩
  · rw [if_pos q]
    rfl
  · by_cases q0 : x < 0
    · rw [if_pos q0]
      rfl
    rw [if_neg q0, gfR_hv hA h12 (by rfl) (by decide) (by rfl), hr, rfv_s, nn_s, alen_R (k := 4) hA h13 (by rfl) (by decide), show kn 13 = 4 from rfl, if_neg (Int32.not_lt.mpr q)]
    rfl
  · rw [if_neg (nI_pos (by omega)), gfR_hv hA h12 (by rfl) (by decide) (by rfl), hr, rfv_s, nn_s, alen_R (k := 4) hA h13 (by rfl) (by decide), show kn 13 = 4 from rfl, if_pos (nI_lt (show j < 4 by omega) (by decide)), gfR_hv hA h12 (by rfl) (by decide) (by rfl), hr, rfv_s, nn_s, aldR_hv (q := 4) hA h13 (by rfl) (show j < 4 by omega), hw j (by omega), if_neg (fun q => hx ⟨j, q, rfl⟩)]
    rfl
/-- the tests that the reference makes: an index below a count -/
theorem is_ix {x : Int32} {n : Nat} {hp : hpT} (hn : n < 2 ^ 30) : ((∃ j, j < n ∧ x = nI j) → F_X8_is x 0 (nI n - 1) hp = rtv 1 hp) ∧ ((¬ ∃ j, j < n ∧ x = nI j) → F_X8_is x 0 (nI n - 1) hp = rtv 0 hp) := by
  rcases ix_cases x hn with ⟨a, b, c⟩ | ⟨j, a, b, c, d⟩
  · exact ⟨fun q => absurd q b, fun _ => is_out a⟩
  · exact ⟨fun _ => is_in c, fun q => absurd ⟨j, a, b⟩ q⟩
theorem isPat_in {j : Nat} (h : INV A iv rv np nr nl) (hj : j < np) : F_X8_isPattern (A.1 20 0) (nI j) (z, hv A iv rv ov) = rtv 1 (z, hv A iv rv ov) := by
  obtain ⟨hM, -, ⟨c1, c2, c3, -⟩, -⟩ := h
  unfold F_X8_isPattern
  rw [mI1 hM, c2, (is_ix (by omega)).1 ⟨j, hj, rfl⟩, bnd_v]
  rfl
theorem isPat_out {x : Int32} (h : INV A iv rv np nr nl) (hx : ¬ ∃ j, j < np ∧ x = nI j) : F_X8_isPattern (A.1 20 0) x (z, hv A iv rv ov) = rtv 0 (z, hv A iv rv ov) := by
  obtain ⟨hM, -, ⟨c1, c2, c3, -⟩, -⟩ := h
  unfold F_X8_isPattern
  rw [mI1 hM, c2, (is_ix (by omega)).2 hx, bnd_v]
  rfl
end AC
