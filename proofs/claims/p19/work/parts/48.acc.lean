/-! what is found at an index -/
section AC
variable {A : Adr} {iv : IVt} {rv : RVt} {ov : Nat → Int64} {z np nr nl : Nat}
theorem patAt_in {j : Nat} (h : INV A iv rv np nr nl) (hj : j < np) : F_X7_patternAt (A.1 0 0) (nI j) (z, hv A iv rv ov) = rtv (A.1 5 j) (z, hv A iv rv ov) := by
  obtain ⟨hA, ⟨⟨t0, t1, t2, t3, t4⟩, ⟨w0, w1, w2, w3⟩, w4, w5, w6, w7, -⟩, ⟨-, c1, -⟩, -⟩ := h
  unfold F_X7_patternAt
  rw [if_neg (nI_pos (by omega)), gfR_hv hA t0 (by rfl) (by decide) (by rfl), w0, rfv_s, nn_s, alen_R (k := 0) hA t1 (by rfl) (by decide), show kn 1 = 6 from rfl, if_pos (nI_lt (show j < 6 by omega) (by decide)), gfR_hv hA t0 (by rfl) (by decide) (by rfl), w0, rfv_s, nn_s, aldR_hv (q := 0) hA t1 (by rfl) (show j < 6 by omega), w4 j (by omega), if_pos hj]
  rfl
theorem patAt_out {x : Int32} (h : INV A iv rv np nr nl) (hx : ¬ ∃ j, j < np ∧ x = nI j) : F_X7_patternAt (A.1 0 0) x (z, hv A iv rv ov) = tht "java/lang/IndexOutOfBoundsException" (z, hv A iv rv ov) := by
  obtain ⟨hA, ⟨⟨t0, t1, t2, t3, t4⟩, ⟨w0, w1, w2, w3⟩, w4, w5, w6, w7, -⟩, ⟨-, c1, -⟩, -⟩ := h
  unfold F_X7_patternAt F_X7_patternAt_b13 F_X7_patternAt_b23
  rcases pk_ix x (n := 6) (by decide) with q | q | ⟨j, hj, rfl⟩
  · rw [if_pos q]
    rfl
  · by_cases q0 : x < 0
    · rw [if_pos q0]
      rfl
    rw [if_neg q0, gfR_hv hA t0 (by rfl) (by decide) (by rfl), w0, rfv_s, nn_s, alen_R (k := 0) hA t1 (by rfl) (by decide), show kn 1 = 6 from rfl, if_neg (Int32.not_lt.mpr q)]
    rfl
  · rw [if_neg (nI_pos (by omega)), gfR_hv hA t0 (by rfl) (by decide) (by rfl), w0, rfv_s, nn_s, alen_R (k := 0) hA t1 (by rfl) (by decide), show kn 1 = 6 from rfl, if_pos (nI_lt (show j < 6 by omega) (by decide)), gfR_hv hA t0 (by rfl) (by decide) (by rfl), w0, rfv_s, nn_s, aldR_hv (q := 0) hA t1 (by rfl) (show j < 6 by omega), w4 j (by omega), if_neg (fun q => hx ⟨j, q, rfl⟩)]
    rfl
theorem rolAt_in {j : Nat} (h : INV A iv rv np nr nl) (hj : j < nr) : F_X7_rollerAt (A.1 0 0) (nI j) (z, hv A iv rv ov) = rtv (A.1 8 j) (z, hv A iv rv ov) := by
  obtain ⟨hA, ⟨⟨t0, t1, t2, t3, t4⟩, ⟨w0, w1, w2, w3⟩, w4, w5, w6, w7, -⟩, ⟨-, -, -, c1, -⟩, -⟩ := h
  unfold F_X7_rollerAt
  rw [if_neg (nI_pos (by omega)), gfR_hv hA t0 (by rfl) (by decide) (by rfl), w1, rfv_s, nn_s, alen_R (k := 1) hA t2 (by rfl) (by decide), show kn 2 = 8 from rfl, if_pos (nI_lt (show j < 8 by omega) (by decide)), gfR_hv hA t0 (by rfl) (by decide) (by rfl), w1, rfv_s, nn_s, aldR_hv (q := 1) hA t2 (by rfl) (show j < 8 by omega), w5 j (by omega), if_pos hj]
  rfl
theorem rolAt_out {x : Int32} (h : INV A iv rv np nr nl) (hx : ¬ ∃ j, j < nr ∧ x = nI j) : F_X7_rollerAt (A.1 0 0) x (z, hv A iv rv ov) = tht "java/lang/IndexOutOfBoundsException" (z, hv A iv rv ov) := by
  obtain ⟨hA, ⟨⟨t0, t1, t2, t3, t4⟩, ⟨w0, w1, w2, w3⟩, w4, w5, w6, w7, -⟩, -⟩ := h
  unfold F_X7_rollerAt F_X7_rollerAt_b13 F_X7_rollerAt_b23
  rcases pk_ix x (n := 8) (by decide) with q | q | ⟨j, hj, rfl⟩
  · rw [if_pos q]
    rfl
  · by_cases q0 : x < 0
    · rw [if_pos q0]
      rfl
    rw [if_neg q0, gfR_hv hA t0 (by rfl) (by decide) (by rfl), w1, rfv_s, nn_s, alen_R (k := 1) hA t2 (by rfl) (by decide), show kn 2 = 8 from rfl, if_neg (Int32.not_lt.mpr q)]
    rfl
  · rw [if_neg (nI_pos (by omega)), gfR_hv hA t0 (by rfl) (by decide) (by rfl), w1, rfv_s, nn_s, alen_R (k := 1) hA t2 (by rfl) (by decide), show kn 2 = 8 from rfl, if_pos (nI_lt (show j < 8 by omega) (by decide)), gfR_hv hA t0 (by rfl) (by decide) (by rfl), w1, rfv_s, nn_s, aldR_hv (q := 1) hA t2 (by rfl) (show j < 8 by omega), w5 j (by omega), if_neg (fun q => hx ⟨j, q, rfl⟩)]
    rfl
theorem lotAt_in {j : Nat} (h : INV A iv rv np nr nl) (hj : j < nl) : F_X7_lotAt (A.1 0 0) (nI j) (z, hv A iv rv ov) = rtv (A.1 11 j) (z, hv A iv rv ov) := by
  obtain ⟨hA, ⟨⟨t0, t1, t2, t3, t4⟩, ⟨w0, w1, w2, w3⟩, w4, w5, w6, w7, -⟩, ⟨-, -, -, -, -, c1⟩, -⟩ := h
  unfold F_X7_lotAt
  rw [if_neg (nI_pos (by omega)), gfR_hv hA t0 (by rfl) (by decide) (by rfl), w2, rfv_s, nn_s, alen_R (k := 2) hA t3 (by rfl) (by decide), show kn 3 = 10 from rfl, if_pos (nI_lt (show j < 10 by omega) (by decide)), gfR_hv hA t0 (by rfl) (by decide) (by rfl), w2, rfv_s, nn_s, aldR_hv (q := 2) hA t3 (by rfl) (show j < 10 by omega), w6 j (by omega), if_pos hj]
  rfl
theorem lotAt_out {x : Int32} (h : INV A iv rv np nr nl) (hx : ¬ ∃ j, j < nl ∧ x = nI j) : F_X7_lotAt (A.1 0 0) x (z, hv A iv rv ov) = tht "java/lang/IndexOutOfBoundsException" (z, hv A iv rv ov) := by
  obtain ⟨hA, ⟨⟨t0, t1, t2, t3, t4⟩, ⟨w0, w1, w2, w3⟩, w4, w5, w6, w7, -⟩, -⟩ := h
  unfold F_X7_lotAt F_X7_lotAt_b13 F_X7_lotAt_b23
  rcases pk_ix x (n := 10) (by decide) with q | q | ⟨j, hj, rfl⟩
  · rw [if_pos q]
    rfl
  · by_cases q0 : x < 0
    · rw [if_pos q0]
      rfl
    rw [if_neg q0, gfR_hv hA t0 (by rfl) (by decide) (by rfl), w2, rfv_s, nn_s, alen_R (k := 2) hA t3 (by rfl) (by decide), show kn 3 = 10 from rfl, if_neg (Int32.not_lt.mpr q)]
    rfl
  · rw [if_neg (nI_pos (by omega)), gfR_hv hA t0 (by rfl) (by decide) (by rfl), w2, rfv_s, nn_s, alen_R (k := 2) hA t3 (by rfl) (by decide), show kn 3 = 10 from rfl, if_pos (nI_lt (show j < 10 by omega) (by decide)), gfR_hv hA t0 (by rfl) (by decide) (by rfl), w2, rfv_s, nn_s, aldR_hv (q := 2) hA t3 (by rfl) (show j < 10 by omega), w6 j (by omega), if_neg (fun q => hx ⟨j, q, rfl⟩)]
    rfl
theorem roomAt_in {j : Nat} (h : INV A iv rv np nr nl) (hj : j < 4) : F_X7_roomAt (A.1 0 0) (nI j) (z, hv A iv rv ov) = rtv (A.1 12 j) (z, hv A iv rv ov) := by
  obtain ⟨hA, ⟨⟨t0, t1, t2, t3, t4⟩, ⟨w0, w1, w2, w3⟩, w4, w5, w6, w7, -⟩, -⟩ := h
  unfold F_X7_roomAt
  rw [if_neg (nI_pos (by omega)), gfR_hv hA t0 (by rfl) (by decide) (by rfl), w3, rfv_s, nn_s, alen_R (k := 3) hA t4 (by rfl) (by decide), show kn 4 = 4 from rfl, if_pos (nI_lt (show j < 4 by omega) (by decide)), gfR_hv hA t0 (by rfl) (by decide) (by rfl), w3, rfv_s, nn_s, aldR_hv (q := 3) hA t4 (by rfl) (show j < 4 by omega), w7 j (by omega)]
  rfl
theorem roomAt_out {x : Int32} (h : INV A iv rv np nr nl) (hx : ¬ ∃ j, j < 4 ∧ x = nI j) : F_X7_roomAt (A.1 0 0) x (z, hv A iv rv ov) = tht "java/lang/IndexOutOfBoundsException" (z, hv A iv rv ov) := by
  obtain ⟨hA, ⟨⟨t0, t1, t2, t3, t4⟩, ⟨w0, w1, w2, w3⟩, w4, w5, w6, w7, -⟩, -⟩ := h
  unfold F_X7_roomAt F_X7_roomAt_b13 F_X7_roomAt_b23
  rcases pk_ix x (n := 4) (by decide) with q | q | ⟨j, hj, rfl⟩
  · rw [if_pos q]
    rfl
  · by_cases q0 : x < 0
    · rw [if_pos q0]
      rfl
    rw [if_neg q0, gfR_hv hA t0 (by rfl) (by decide) (by rfl), w3, rfv_s, nn_s, alen_R (k := 3) hA t4 (by rfl) (by decide), show kn 4 = 4 from rfl, if_neg (Int32.not_lt.mpr q)]
    rfl
  · exact absurd ⟨j, hj, rfl⟩ hx
/-- a room's wall -/
theorem wallAt_in {r n w : Nat} (hA : IN A) (h12 : A.2.2 12 r = true) (h13 : A.2.2 13 r = true) (hr : rv 12 r 0 = some (13, r)) (hn : n ≤ 4) (hw : ∀ w, w < 4 → rv 13 r w = if w < n then some (16, 4 * r + w) else none) (hj : w < n) : F_X7_wallAt (A.1 12 r) (nI w) (z, hv A iv rv ov) = rtv (A.1 16 (4 * r + w)) (z, hv A iv rv ov) := by
  unfold F_X7_wallAt
  rw [if_neg (nI_pos (by omega)), gfR_hv hA h12 (by rfl) (by decide) (by rfl), hr, rfv_s, nn_s, alen_R (k := 4) hA h13 (by rfl) (by decide), show kn 13 = 4 from rfl, if_pos (nI_lt (show w < 4 by omega) (by decide)), gfR_hv hA h12 (by rfl) (by decide) (by rfl), hr, rfv_s, nn_s, aldR_hv (q := 4) hA h13 (by rfl) (show w < 4 by omega), hw w (by omega), if_pos hj]
  rfl
theorem wallAt_out {r n : Nat} {x : Int32} (hA : IN A) (h12 : A.2.2 12 r = true) (h13 : A.2.2 13 r = true) (hr : rv 12 r 0 = some (13, r)) (hn : n ≤ 4) (hw : ∀ w, w < 4 → rv 13 r w = if w < n then some (16, 4 * r + w) else none) (hx : ¬ ∃ j, j < n ∧ x = nI j) : F_X7_wallAt (A.1 12 r) x (z, hv A iv rv ov) = tht "java/lang/IndexOutOfBoundsException" (z, hv A iv rv ov) := by
  unfold F_X7_wallAt F_X7_wallAt_b13 F_X7_wallAt_b23
  rcases pk_ix x (n := 4) (by decide) with q | q | ⟨j, hj, rfl⟩
  · rw [if_pos q]
    rfl
  · by_cases q0 : x < 0
    · rw [if_pos q0]
      rfl
    rw [if_neg q0, gfR_hv hA h12 (by rfl) (by decide) (by rfl), hr, rfv_s, nn_s, alen_R (k := 4) hA h13 (by rfl) (by decide), show kn 13 = 4 from rfl, if_neg (Int32.not_lt.mpr q)]
    rfl
  · rw [if_neg (nI_pos (by omega)), gfR_hv hA h12 (by rfl) (by decide) (by rfl), hr, rfv_s, nn_s, alen_R (k := 4) hA h13 (by rfl) (by decide), show kn 13 = 4 from rfl, if_pos (nI_lt (show j < 4 by omega) (by decide)), gfR_hv hA h12 (by rfl) (by decide) (by rfl), hr, rfv_s, nn_s, aldR_hv (q := 4) hA h13 (by rfl) (show j < 4 by omega), hw j (by omega), if_neg (fun q => hx ⟨j, q, rfl⟩)]
    rfl
end AC
