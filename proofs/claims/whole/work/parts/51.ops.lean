/-! lotOf, lost, cut -/
theorem rg4 {v : Int32} (h : inR v 0 4) : ∃ n, v = nI n ∧ n ≤ 4 := by
  obtain ⟨n, a, -, c⟩ := rg_of (a := 0) (b := 4) (by decide) (by decide) h
  exact ⟨n, a, c⟩
theorem rg5 {v : Int32} (h : inR v 0 5) : ∃ n, v = nI n ∧ n ≤ 5 := by
  obtain ⟨n, a, -, c⟩ := rg_of (a := 0) (b := 5) (by decide) (by decide) h
  exact ⟨n, a, c⟩
section O2
variable {A : Adr} {iv : IVt} {rv : RVt} {ov : Nat → Int64} {z np nr nl : Nat}
theorem sc7 {v1 v2 : Int32} (h : INV A iv rv np nr nl) (hF : RFA A rv) : OP A cs_L_lotOf (F_X7_lotOf (A.1 0 0) v1 v2 (z, hv A iv rv ov)) (F_X8_lotOf (A.1 20 0) v1 v2) := by
  have hM := h.1
  have hA := hM.1
  obtain ⟨⟨t0, -⟩, -⟩ := id h.2.1
  obtain ⟨-, -, -, -, -, -, c1, c2, c3, c4⟩ := id h.2.2.1
  unfold F_X7_lotOf F_X8_lotOf F_X8_lotOf_b33
  by_cases hx : ∃ j, j < nl ∧ v1 = nI j
  · have hx' := hx
    obtain ⟨j, hj, rfl⟩ := hx
    obtain ⟨q, k, L, p1, p2, p3, p4, p5, p6, p7, p8, p9, p10, p11, p12, p13, p14⟩ := h.2.2.2.2.2.1 j hj
    obtain ⟨p, w, hh, s, rd, r1, r2, r3, r4, r5, r6, r7, r8, r9, r10, r11, r12⟩ := h.2.2.2.2.1 q p1
    by_cases hv2 : inR v2 0 4
    · have hv2' := hv2
      obtain ⟨n, rfl, hn⟩ := rg4 hv2
      have hY : ∀ z1 ov', (gfI (z1, hv A iv rv ov') (A.1 20 0) 8 10 fun x43 => bnd (F_X8_is (nI j) 0 (x43 - 1) (z1, hv A iv rv ov')) fun x44 h44 => (if x44 = 0 then F_X8_lotOf_b33 (A.1 20 0) (nI j) (nI n) 1 (A.1 20 0) h44 else bnd (F_X8_is (nI n) 0 4 h44) fun x45 h45 => (if x45 = 0 then F_X8_lotOf_b33 (A.1 20 0) (nI j) (nI n) 2 (A.1 20 0) h45 else F_X8_lotOf_b33 (A.1 20 0) (nI j) (nI n) 0 (A.1 20 0) h45))) = F_X8_lotOf_b33 (A.1 20 0) (nI j) (nI n) 0 (A.1 20 0) (z1, hv A iv rv ov') := by
        intro z1 ov'
        rw [mI10 hM, c2, (is_ix (by omega)).1 hx', bnd_v, if_neg (by decide), is_in hv2', bnd_v, if_neg (by decide)]
      have hX : ∀ K : Nat → hpT → Rs Int32, isO (z, hv A iv rv ov) (A.1 0 0) 7 (bnd (F_X7_lotAt (A.1 0 0) (nI j) (z, hv A iv rv ov)) K) = K (A.1 11 j) (z, hv A iv rv ov) := by
        intro K
        rw [isO_hv hA t0 (by rfl) (by decide), lotAt_in h hj, bnd_v]
      refine op_ans (z := z) (ov := ov) (x := if n = 0 then iv 11 j 1 else if n = 1 then iv 11 j 2 else if n = 2 then iv 11 j 4 else if n = 3 then iv 11 j 3 else ((nI L + nI rd) - 1) / nI rd) h hF ?_ (fun z1 ov' => (hY z1 ov').trans ?_)
      · rw [hX]
        rcases (show n = 0 ∨ n = 1 ∨ n = 2 ∨ n = 3 ∨ n = 4 by omega) with rfl | rfl | rfl | rfl | rfl
        · rw [if_pos (by decide), gfI_hv hA p3 (by rfl) (by decide) (by rfl)]
          rfl
        · rw [if_neg (by decide), if_pos (by decide), gfI_hv hA p3 (by rfl) (by decide) (by rfl)]
          rfl
        · rw [if_neg (by decide), if_neg (by decide), if_pos (by decide), gfI_hv hA p3 (by rfl) (by decide) (by rfl)]
          rfl
        · rw [if_neg (by decide), if_neg (by decide), if_neg (by decide), if_pos (by decide), gfI_hv hA p3 (by rfl) (by decide) (by rfl)]
          rfl
        · rw [if_neg (by decide), if_neg (by decide), if_neg (by decide), if_neg (by decide), if_pos (by decide), isO_hv hA p3 (by rfl) (by decide)]
          unfold F_X1_roundsOfARoll
          rw [gfR_hv hA p3 (by rfl) (by decide) (by rfl), p4, rfv_s, nn_s, gfI_hv hA r5 (by rfl) (by decide) (by rfl), r8, if_pos (show (1 : Int32) ≤ nI rd from nI_le (a := 1) r10 (by omega)), gfI_hv hA p3 (by rfl) (by decide) (by rfl), p11, nz_p (nI_ne0 (by omega) (by omega)), bnd_v]
          rfl
      · unfold F_X8_lotOf_b33
        rw [mO hM, ref0 hM, bnd_v, if_pos rfl]
        rcases (show n = 0 ∨ n = 1 ∨ n = 2 ∨ n = 3 ∨ n = 4 by omega) with rfl | rfl | rfl | rfl | rfl
        · rw [if_neg (by decide), if_pos (by decide), mR11 hM, nn_s, mA11 hM p2, u3_T (by decide), p6, ← p5]
          rfl
        · rw [if_neg (by decide), if_neg (by decide), if_pos (by decide), mR12 hM, nn_s, mA12 hM p2, u3_T (by decide), p7]
          rfl
        · rw [if_neg (by decide), if_neg (by decide), if_neg (by decide), if_pos (by decide), mR13 hM, nn_s, mA13 hM p2, u3_T (by decide), p9, ← p8]
          rfl
        · rw [if_neg (by decide), if_neg (by decide), if_neg (by decide), if_neg (by decide), mR14 hM, nn_s, mA14 hM p2, u3_T (by decide), p12, ← p11]
          rfl
        · rw [if_pos (by decide), mR8 hM, mR11 hM, nn_s, mA11 hM p2, nn_s, u3_T (by decide), p6, mA8 hM r2, u3_T (by decide), r9, mR14 hM, nn_s, mA14 hM p2, u3_T (by decide), p12, nz_p (nI_ne0 (by omega) (by omega))]
          rfl
    · refine op_ref (z := z) (ov := ov) (k := 2) (b := 0) h hF ?_ (fun _ => wc2 (by decide)) (by decide) (fun z1 => ?_)
      · rw [isO_hv hA t0 (by rfl) (by decide), lotAt_in h hj, bnd_v]
        have e : ∀ n, n ≤ 4 → ¬ v2 = nI n := fun n hn q => hv2 (by rw [q]; exact rg_to (a := 0) (b := 4) (Nat.zero_le _) hn (by decide))
        rw [if_neg (show ¬ v2 = 0 from e 0 (by decide)), if_neg (show ¬ v2 = 1 from e 1 (by decide)), if_neg (show ¬ v2 = 2 from e 2 (by decide)), if_neg (show ¬ v2 = 3 from e 3 (by decide)), if_neg (show ¬ v2 = 4 from e 4 (by decide))]
      · rw [mI10 hM, c2, (is_ix (by omega)).1 hx', bnd_v, if_neg (by decide), is_out hv2, bnd_v, if_pos rfl, mO hM, ref2 hM, bnd_v, if_neg (by decide)]
  · refine op_ref (z := z) (ov := ov) (k := 1) (b := 0) h hF ?_ (fun _ => wc1) (by decide) (fun z1 => ?_)
    · rw [isO_hv hA t0 (by rfl) (by decide), lotAt_out h hx, bnd_t]
    · rw [mI10 hM, c2, (is_ix (by omega)).2 hx, bnd_v, if_pos rfl, mO hM, ref1 hM, bnd_v, if_neg (by decide)]
theorem sc15 (h : INV A iv rv np nr nl) (hF : RFA A rv) : SC_15 (IV (A.1 0 0) (A.1 20 0) (A.1 18 0)) (A.1 0 0) (A.1 20 0) (A.1 18 0) z (hv A iv rv ov) := by
  have hM := h.1
  have hA := hM.1
  obtain ⟨⟨t0, -⟩, -⟩ := id h.2.1
  obtain ⟨-, -, -, -, -, -, c1, c2, c3, c4⟩ := id h.2.2.1
  refine ⟨iv 0 0 7, (z, hv A iv rv ov), (z, hv A (u3 iv 20 0 0 0) rv ov), ?_, md_at hM, ?_, A, _, rv, ov, np, nr, nl, rfl, hF, rfl, rfl, rfl, h.ref 0⟩
  · unfold F_X7_lost
    rw [gfI_hv hA t0 (by rfl) (by decide) (by rfl)]
    rfl
  · unfold F_X8_lost
    rw [mP0 hM, mI28 hM, u3_n (by omega), c4.1]
    rfl
/-! rooms: which there are, which walls, whether they are hung -/
theorem nI_m1 {l : Nat} (h : l < 2 ^ 31) : ¬ nI l = -1 := fun q => by
  have h1 := nI_toInt h
  rw [q, show (-1 : Int32).toInt = -1 by decide] at h1
  omega
theorem isRoom_in {r : Nat} {hp : hpT} (hr : r < 4) : F_X8_isRoom (nI r) hp = rtv 1 hp := by
  unfold F_X8_isRoom
  rw [show (3 : Int32) = nI 4 - 1 by decide, (is_ix (by omega)).1 ⟨r, hr, rfl⟩, bnd_v]
  rfl
theorem isRoom_out {x : Int32} {hp : hpT} (hx : ¬ ∃ j, j < 4 ∧ x = nI j) : F_X8_isRoom x hp = rtv 0 hp := by
  unfold F_X8_isRoom
  rw [show (3 : Int32) = nI 4 - 1 by decide, (is_ix (by omega)).2 hx, bnd_v]
  rfl
theorem isWall_spec {r n : Nat} {x : Int32} (hM : MD A rv) (hr : r < 4) (hn : n ≤ 4) (h32 : iv 32 0 r = nI n) : ((∃ j, j < n ∧ x = nI j) → F_X8_isWall (A.1 20 0) (nI r) x (z, hv A iv rv ov) = rtv 1 (z, hv A iv rv ov)) ∧ ((¬ ∃ j, j < n ∧ x = nI j) → F_X8_isWall (A.1 20 0) (nI r) x (z, hv A iv rv ov) = rtv 0 (z, hv A iv rv ov)) := by
  unfold F_X8_isWall F_X8_isWall_b27
  rw [isRoom_in hr, bnd_v, if_neg (by decide), mR15 hM, nn_s, mA15 hM hr, h32]
  refine ⟨fun q => ?_, fun q => ?_⟩
  · rw [(is_ix (by omega)).1 q, bnd_v, if_neg (by decide)]
    rfl
  · rw [(is_ix (by omega)).2 q, bnd_v, if_pos rfl]
    rfl
theorem isWall_out {x y : Int32} (hx : ¬ ∃ j, j < 4 ∧ x = nI j) : F_X8_isWall (A.1 20 0) x y (z, hv A iv rv ov) = rtv 0 (z, hv A iv rv ov) := by
  unfold F_X8_isWall F_X8_isWall_b27
  rw [isRoom_out hx, bnd_v, if_pos rfl]
  rfl
theorem cHung_n {r : Nat} (hA : IN A) (h1 : A.2.2 12 r = true) (h2 : rv 12 r 3 = none) : F_X5_isHung (A.1 12 r) (z, hv A iv rv ov) = rtv 0 (z, hv A iv rv ov) := by
  unfold F_X5_isHung
  rw [gfR_hv hA h1 (by rfl) (by decide) (by rfl), h2, rfv_n, nlc_n]
  rfl
theorem cHung_s {r l : Nat} (hA : IN A) (h1 : A.2.2 12 r = true) (h2 : rv 12 r 3 = some (11, l)) : F_X5_isHung (A.1 12 r) (z, hv A iv rv ov) = rtv 1 (z, hv A iv rv ov) := by
  unfold F_X5_isHung
  rw [gfR_hv hA h1 (by rfl) (by decide) (by rfl), h2, rfv_s, nlc_s]
  rfl
theorem mHung_n {r : Nat} (hM : MD A rv) (hr : r < 4) (h2 : iv 35 0 r = -1) : F_X8_isHung (A.1 20 0) (nI r) (z, hv A iv rv ov) = rtv 0 (z, hv A iv rv ov) := by
  unfold F_X8_isHung
  rw [mR18 hM, nn_s, mA18 hM hr, h2, if_pos rfl]
  rfl
theorem mHung_s {r l : Nat} (hM : MD A rv) (hr : r < 4) (hl : l < 10) (h2 : iv 35 0 r = nI l) : F_X8_isHung (A.1 20 0) (nI r) (z, hv A iv rv ov) = rtv 1 (z, hv A iv rv ov) := by
  unfold F_X8_isHung
  rw [mR18 hM, nn_s, mA18 hM hr, h2, if_neg (nI_m1 (by omega))]
  rfl
theorem wix {r w : Nat} : 4 * nI r + nI w = nI (4 * r + w) := by rw [show (4 : Int32) = nI 4 from rfl, pk_mul, nI_add]
theorem sc13 {v1 v2 v3 : Int32} (h : INV A iv rv np nr nl) (hF : RFA A rv) : OP A cs_L_cut (F_X7_cut (A.1 0 0) v1 v2 v3 (z, hv A iv rv ov)) (F_X8_cut (A.1 20 0) v1 v2 v3) := by
  have hM := h.1
  have hA := hM.1
  obtain ⟨⟨t0, -⟩, -⟩ := id h.2.1
  obtain ⟨-, -, -, -, -, -, c1, c2, c3, c4⟩ := id h.2.2.1
  have mbad : ∀ z1, F_X8_cut_b47 (A.1 20 0) v1 v2 v3 1 (A.1 20 0) (z1, hv A iv rv ov) = rtv 0 (z1, hv A (u3 iv 20 0 0 1) rv ov) := by
    intro z1
    unfold F_X8_cut_b47
    rw [mO hM, ref1 hM, bnd_v, if_neg (by decide)]
  by_cases hx : ∃ j, j < 4 ∧ v1 = nI j
  · obtain ⟨r, hr, rfl⟩ := hx
    obtain ⟨g1, g2, g3, g4, g5, g6, g7, n, g8, g9, g10, g11, g12, g13, g14⟩ := h.2.2.2.2.2.2 r hr
    by_cases hy : ∃ j, j < n ∧ v2 = nI j
    · have hy' := hy
      obtain ⟨w, hw, rfl⟩ := hy
      obtain ⟨d, hh, w1, w2, w3, w4, w5, w6, w7, w8, w9, w10, w11, w12⟩ := g13 w hw
      have hC : ∀ K : Nat → hpT → Rs Int32, isO (z, hv A iv rv ov) (A.1 0 0) 7 (bnd (F_X7_roomAt (A.1 0 0) (nI r) (z, hv A iv rv ov)) fun a21 h21 => bnd (F_X7_wallAt a21 (nI w) h21) K) = K (A.1 16 (4 * r + w)) (z, hv A iv rv ov) := by
        intro K
        rw [isO_hv hA t0 (by rfl) (by decide), roomAt_in h hr, bnd_v, wallAt_in hA g1 g2 g5 g8 g11 hw, bnd_v]
      have hMw : ∀ z1 ov', F_X8_cut (A.1 20 0) (nI r) (nI w) v3 (z1, hv A iv rv ov') = bnd (F_X8_is v3 0 (nI d - 1) (z1, hv A iv rv ov')) fun x33 h33 => (if x33 = 0 then F_X8_cut_b33 (A.1 20 0) (nI r) (nI w) v3 h33 else F_X8_cut_b34 (A.1 20 0) (nI r) (nI w) v3 1 h33) := by
        intro z1 ov'
        unfold F_X8_cut
        rw [mO hM, (isWall_spec hM hr g8 g10).1 hy', bnd_v, if_neg (by decide), mR16 hM, nn_s, wix, mA16 hM w1, w6]
      unfold F_X7_cut F_X7_cut_b38
      by_cases hd : ∃ j, j < d ∧ v3 = nI j
      · have hd' := hd
        obtain ⟨k, hk, rfl⟩ := hd
        rcases g14 with ⟨b1, b2⟩ | ⟨l, b1, b2, o, ph, L, R, kk, q, q1, q2, q3, q4, q5, q6, q7, q8, q9, q10, q11, q12, q13, q14, q15, q16, q17, q18⟩
        · refine op_ans (z := z) (ov := ov) (x := -1) h hF ?_ (fun z1 ov' => ?_)
          · refine ((isO_hv hA t0 (by rfl) (by decide))).trans ?_
            rw [roomAt_in h hr, bnd_v, wallAt_in hA g1 g2 g5 g8 g11 hw, bnd_v, if_neg (nI_pos (by omega)), gfI_hv hA w2 (by rfl) (by decide) (by rfl), w5, if_neg (nI_ge hk (by omega)), gfR_hv hA w2 (by rfl) (by decide) (by rfl), w4, rfv_s, nn_s, alen_I hA w3 (by rfl), show kn 17 = 24 from rfl, if_pos (nI_lt (by omega) (by decide)), isO_hv hA g1 (by rfl) (by decide), cHung_n hA g1 b1, bnd_v, if_pos rfl]
          · rw [hMw, (is_ix (by omega)).1 hd', bnd_v, if_neg (by decide)]
            unfold F_X8_cut_b34 F_X8_cut_b47
            rw [if_neg (by decide), mO hM, ref0 hM, bnd_v, if_pos rfl, mO hM, mHung_n hM hr (by rw [u3_T (by decide)]; exact b2), bnd_v, if_pos rfl]
        · obtain ⟨a, b, e1, e2, e3, e4, e5, e6⟩ := q18 w d k hw w5 w8 hk
          refine op_ans (z := z) (ov := ov) (x := nI (1000 * a + b)) h hF ?_ (fun z1 ov' => ?_)
          · refine ((isO_hv hA t0 (by rfl) (by decide))).trans ?_
            rw [roomAt_in h hr, bnd_v, wallAt_in hA g1 g2 g5 g8 g11 hw, bnd_v, if_neg (nI_pos (by omega)), gfI_hv hA w2 (by rfl) (by decide) (by rfl), w5, if_neg (nI_ge hk (by omega)), gfR_hv hA w2 (by rfl) (by decide) (by rfl), w4, rfv_s, nn_s, alen_I hA w3 (by rfl), show kn 17 = 24 from rfl, if_pos (nI_lt (by omega) (by decide)), isO_hv hA g1 (by rfl) (by decide), cHung_s hA g1 b2, bnd_v, if_neg (by decide), gfR_hv hA w2 (by rfl) (by decide) (by rfl), w4, rfv_s, nn_s, ald_hv hA w3 (by rfl) (show k < 24 by omega), e4]
          · rw [hMw, (is_ix (by omega)).1 hd', bnd_v, if_neg (by decide)]
            unfold F_X8_cut_b34 F_X8_cut_b47
            rw [if_neg (by decide), mO hM, ref0 hM, bnd_v, if_pos rfl, mO hM, mHung_s hM hr (show l < 10 by omega) (by rw [u3_T (by decide)]; exact q2), bnd_v, if_neg (by decide), mR26 hM, nn_s, wix, show (24 : Int32) = nI 24 from rfl, pk_mul, nI_add, mA26 hM (by omega), mR27 hM, nn_s, mA27 hM (by omega), u3_T (by decide), u3_T (by decide), e5, e6, show (1000 : Int32) = nI 1000 from rfl, pk_mul, nI_add]
      · refine op_ref (z := z) (ov := ov) (k := 1) (b := 0) h hF ?_ (fun _ => wc1) (by decide) (fun z1 => ?_)
        · refine ((isO_hv hA t0 (by rfl) (by decide))).trans ?_
          rw [roomAt_in h hr, bnd_v, wallAt_in hA g1 g2 g5 g8 g11 hw, bnd_v, gfI_hv hA w2 (by rfl) (by decide) (by rfl), w5]
          rcases ix_cases v3 (n := d) (by omega) with ⟨-, -, u⟩ | ⟨j, u1, u2, -⟩
          · by_cases u1 : v3 < 0
            · rw [if_pos u1]
            · rw [if_neg u1, if_pos (u.resolve_left u1)]
          · exact absurd ⟨j, u1, u2⟩ hd
        · rw [hMw, (is_ix (by omega)).2 hd, bnd_v, if_pos rfl]
          unfold F_X8_cut_b33 F_X8_cut_b34
          rw [if_pos rfl]
          exact mbad z1
    · refine op_ref (z := z) (ov := ov) (k := 1) (b := 0) h hF ?_ (fun _ => wc1) (by decide) (fun z1 => ?_)
      · unfold F_X7_cut
        rw [isO_hv hA t0 (by rfl) (by decide), roomAt_in h hr, bnd_v, wallAt_out hA g1 g2 g5 g8 g11 hy, bnd_t]
      · unfold F_X8_cut F_X8_cut_b33 F_X8_cut_b34
        rw [mO hM, (isWall_spec hM hr g8 g10).2 hy, bnd_v, if_pos rfl, if_pos rfl]
        exact mbad z1
  · refine op_ref (z := z) (ov := ov) (k := 1) (b := 0) h hF ?_ (fun _ => wc1) (by decide) (fun z1 => ?_)
    · unfold F_X7_cut
      rw [isO_hv hA t0 (by rfl) (by decide), roomAt_out h hx, bnd_t]
    · unfold F_X8_cut F_X8_cut_b33 F_X8_cut_b34
      rw [mO hM, isWall_out hx, bnd_v, if_pos rfl, if_pos rfl]
      exact mbad z1
end O2
