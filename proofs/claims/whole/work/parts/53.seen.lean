/-! seen -/
section SE
variable {A : Adr} {iv : IVt} {rv : RVt} {ov : Nat → Int64} {z np nr nl : Nat}
theorem nI_inj {a b : Nat} (ha : a < 2 ^ 31) (hb : b < 2 ^ 31) (h : nI a = nI b) : a = b := (nI_eq ha hb).mp h
theorem sc14 {v1 v2 v3 v4 : Int32} (h : INV A iv rv np nr nl) (hF : RFA A rv) : OP A cs_L_seen (F_X7_seen (A.1 0 0) v1 v2 v3 v4 (z, hv A iv rv ov)) (F_X8_seen (A.1 20 0) v1 v2 v3 v4) := by
  have hM := h.1
  have hA := hM.1
  obtain ⟨⟨t0, -⟩, -⟩ := id h.2.1
  obtain ⟨-, -, -, -, -, -, c1, c2, c3, c4⟩ := id h.2.2.1
  by_cases hx : ∃ j, j < 4 ∧ v1 = nI j
  · obtain ⟨r, hr, rfl⟩ := hx
    obtain ⟨g1, g2, g3, g4, g5, g6, g7, n, g8, g9, g10, g11, g12, g13, g14⟩ := h.2.2.2.2.2.2 r hr
    by_cases hy : ∃ j, j < n ∧ v2 = nI j
    · have hy' := hy
      obtain ⟨w, hw, rfl⟩ := hy
      obtain ⟨d, hh, w1, w2, w3, w4, w5, w6, w7, w8, w9, w10, w11, w12⟩ := g13 w hw
      rcases g14 with ⟨b1, b2⟩ | ⟨l, b1, b2, o, ph, L, R, kk, q, q1, q2, q3, q4, q5, q6, q7, q8, q9, q10, q11, q12, q13, q14, q15, q16, q17, q18⟩
      · refine op_ans (z := z) (ov := ov) (x := -1) h hF ?_ (fun z1 ov' => ?_)
        · unfold F_X7_seen
          rw [isO_hv hA t0 (by rfl) (by decide), roomAt_in h hr, bnd_v, wallAt_in hA g1 g2 g5 g8 g11 hw, bnd_v, gfR_hv hA g1 (by rfl) (by decide) (by rfl), b1, rfv_n, nlc_n]
        · unfold F_X8_seen
          rw [mO hM, (isWall_spec hM hr g8 g10).1 hy', bnd_v, if_neg (by decide), mO hM, mHung_n hM hr b2, bnd_v, if_pos rfl]
          unfold F_X8_seen_b21 F_X8_seen_b32
          rw [if_neg (by decide), mO hM, ref0 hM, bnd_v, if_neg (by decide)]
      · obtain ⟨lq, lk, lL, p1, p2, p3, p4, p5, p6, p7, p8, p9, p10, p11, p12, p13, p14⟩ := h.2.2.2.2.2.1 l b1
        obtain ⟨p, pw, phh, s, rd, r1, r2, r3, r4, r5, r6, r7, r8, r9, r10, r11, r12⟩ := h.2.2.2.2.1 lq p1
        have eq : q = lq := by
          rw [p4] at q13
          cases q13
          rfl
        subst eq
        obtain ⟨e1, e2, e3, e4, e5, e6, e7, e8, e9, e10, e11, e12⟩ := id r7
        have eR : R = rrM phh s := nI_inj (by omega) (by omega) (q14.symm.trans e8)
        subst eR
        have hdC : d * rcM pw s ≤ 240 := by
          have := Nat.mul_le_mul w8 e10
          omega
        have mHead : ∀ z1 ov', F_X8_seen (A.1 20 0) (nI r) (nI w) v3 v4 (z1, hv A iv rv ov') = bnd (F_X8_is v3 0 (nI (d * rcM pw s) - 1) (z1, hv A iv rv ov')) fun x48 h48 => (if x48 = 0 then F_X8_seen_b123 (A.1 20 0) v3 v4 (nI (4 * r + w)) (nI q) (nI (rcM pw s)) (A.1 20 0) h48 else gfR h48 (A.1 20 0) 8 17 fun r49 => nn r49 fun a50 => ald h48 a50 (4 * nI r + nI w) fun x51 => bnd (F_X8_is v4 0 (x51 - 1) h48) fun x52 h52 => (if x52 = 0 then F_X8_seen_b123 (A.1 20 0) v3 v4 (nI (4 * r + w)) (nI q) (nI (rcM pw s)) (A.1 20 0) h52 else F_X8_seen_b124 (A.1 20 0) v3 v4 (nI (4 * r + w)) (nI q) (nI (rcM pw s)) 0 (A.1 20 0) h52)) := by
          intro z1 ov'
          unfold F_X8_seen
          rw [mO hM, (isWall_spec hM hr g8 g10).1 hy', bnd_v, if_neg (by decide), mO hM, mHung_s hM hr (show l < 10 by omega) q2, bnd_v, if_neg (by decide), mR11 hM, mR18 hM, nn_s, mA18 hM hr, q2, nn_s, mA11 hM (show l < 10 by omega), p6, mR7 hM, nn_s, mA7 hM r2, r3, mO hM, cols_spec hM r4, bnd_v, mR16 hM, nn_s, wix, mA16 hM w1, w6, pk_mul]
        have mbad : ∀ z1, F_X8_seen_b123 (A.1 20 0) v3 v4 (nI (4 * r + w)) (nI q) (nI (rcM pw s)) (A.1 20 0) (z1, hv A iv rv ov) = rtv 0 (z1, hv A (u3 iv 20 0 0 1) rv ov) := by
          intro z1
          unfold F_X8_seen_b123 F_X8_seen_b124
          rw [mO hM, ref1 hM, bnd_v, if_neg (by decide)]
        by_cases h3 : ∃ j, j < d * rcM pw s ∧ v3 = nI j
        · have h3' := h3
          obtain ⟨X, hX, rfl⟩ := h3
          by_cases h4 : ∃ j, j < hh ∧ v4 = nI j
          · have h4' := h4
            obtain ⟨Y, hY, rfl⟩ := h4
            have hXC : X / rcM pw s < d := Nat.div_lt_of_lt_mul (by rw [Nat.mul_comm]; exact hX)
            obtain ⟨a, b, k1, k2, k3, k4, k5, k6⟩ := q18 w d (X / rcM pw s) hw w5 w8 hXC
            have hc := r12 (X % rcM pw s) ((ph + Y) % rrM phh s) (Nat.mod_lt _ e9) (Nat.mod_lt _ e11)
            refine op_ans (z := z) (ov := ov) (x := iv 10 q ((ph + Y) % rrM phh s * rcM pw s + X % rcM pw s)) h hF ?_ (fun z1 ov' => ?_)
            · unfold F_X7_seen
              have hs := cat_spec (z := z) (ov := ov) (x := nI X) (y := nI (ph + Y)) hA r7
              rw [wm_nI (by omega), wm_nI (by omega)] at hs
              rw [isO_hv hA t0 (by rfl) (by decide), roomAt_in h hr, bnd_v, wallAt_in hA g1 g2 g5 g8 g11 hw, bnd_v, gfR_hv hA g1 (by rfl) (by decide) (by rfl), b2, rfv_s, nlc_s, gfR_hv hA p3 (by rfl) (by decide) (by rfl), p4, rfv_s, nn_s, gfR_hv hA r5 (by rfl) (by decide) (by rfl), r6, rfv_s, if_neg (nI_pos (by omega)), gfI_hv hA w2 (by rfl) (by decide) (by rfl), w5, nn_s, gfI_hv hA e1 (by rfl) (by decide) (by rfl), e7, pk_mul, if_neg (nI_ge hX (by omega)), if_neg (nI_pos (by omega)), gfI_hv hA w2 (by rfl) (by decide) (by rfl), w9, if_pos (nI_lt hY (by omega)), gfR_hv hA g1 (by rfl) (by decide) (by rfl), g6, rfv_s, nn_s, gfI_hv hA g3 (by rfl) (by decide) (by rfl), q7, nI_add, isO_hv hA e1 (by rfl) (by decide), hs, bnd_v]
            · rw [mHead, (is_ix (by omega)).1 h3', bnd_v, if_neg (by decide), mR17 hM, nn_s, wix, mA17 hM w1, w10, (is_ix (by omega)).1 h4', bnd_v, if_neg (by decide)]
              unfold F_X8_seen_b124
              have r4' : MPA (u3 iv 20 0 0 0) p pw phh s := r4.to (u3_T (by decide)) (u3_T (by decide)) (u3_T (by decide))
              rw [mO hM, ref0 hM, bnd_v, if_pos rfl, mR27 hM, nz_p (nI_ne0 (by omega) (by omega)), nn_s, pk_div (by omega) (by omega) (by omega), show (24 : Int32) = nI 24 from rfl, pk_mul, nI_add, mA27 hM (by omega), u3_T (by decide), k6, mR9 hM, mR7 hM, nn_s, mA7 hM r2, u3_T (by decide), r3, mO hM, rows_spec hM r4', bnd_v, nz_p (nI_ne0 (by omega) (by omega)), nz_p (nI_ne0 (by omega) (by omega)), nn_s]
              have er : irm (nI b + nI Y) (nI (rrM phh s)) = nI ((ph + Y) % rrM phh s) := by
                unfold irm
                rw [nI_add, pk_rem (by omega) (by omega) (by omega), ← k3, Nat.mod_add_mod]
              have ec : irm (nI X) (nI (rcM pw s)) = nI (X % rcM pw s) := by
                unfold irm
                rw [pk_rem (by omega) (by omega) (by omega)]
              have l1 : (ph + Y) % rrM phh s < 10 := Nat.lt_of_lt_of_le (Nat.mod_lt _ e11) e12
              have l2 : X % rcM pw s < 10 := Nat.lt_of_lt_of_le (Nat.mod_lt _ e9) e10
              rw [er, ec, show (100 : Int32) = nI 100 from rfl, show (10 : Int32) = nI 10 from rfl, pk_mul, pk_mul, nI_add, nI_add, mA9 hM (by omega), u3_T (by decide), hc]
          · refine op_ref (z := z) (ov := ov) (k := 1) (b := 0) h hF ?_ (fun _ => wc1) (by decide) (fun z1 => ?_)
            · unfold F_X7_seen F_X7_seen_b73
              rw [isO_hv hA t0 (by rfl) (by decide), roomAt_in h hr, bnd_v, wallAt_in hA g1 g2 g5 g8 g11 hw, bnd_v, gfR_hv hA g1 (by rfl) (by decide) (by rfl), b2, rfv_s, nlc_s, gfR_hv hA p3 (by rfl) (by decide) (by rfl), p4, rfv_s, nn_s, gfR_hv hA r5 (by rfl) (by decide) (by rfl), r6, rfv_s, if_neg (nI_pos (by omega)), gfI_hv hA w2 (by rfl) (by decide) (by rfl), w5, nn_s, gfI_hv hA e1 (by rfl) (by decide) (by rfl), e7, pk_mul, if_neg (nI_ge hX (by omega)), gfI_hv hA w2 (by rfl) (by decide) (by rfl), w9]
              rcases ix_cases v4 (n := hh) (by omega) with ⟨-, -, u⟩ | ⟨j, u1, u2, -⟩
              · by_cases u1 : v4 < 0
                · rw [if_pos u1]
                · rw [if_neg u1, if_neg (Int32.not_lt.mpr (u.resolve_left u1))]
              · exact absurd ⟨j, u1, u2⟩ h4
            · rw [mHead, (is_ix (by omega)).1 h3', bnd_v, if_neg (by decide), mR17 hM, nn_s, wix, mA17 hM w1, w10, (is_ix (by omega)).2 h4, bnd_v, if_pos rfl]
              exact mbad z1
        · refine op_ref (z := z) (ov := ov) (k := 1) (b := 0) h hF ?_ (fun _ => wc1) (by decide) (fun z1 => ?_)
          · unfold F_X7_seen F_X7_seen_b73
            rw [isO_hv hA t0 (by rfl) (by decide), roomAt_in h hr, bnd_v, wallAt_in hA g1 g2 g5 g8 g11 hw, bnd_v, gfR_hv hA g1 (by rfl) (by decide) (by rfl), b2, rfv_s, nlc_s, gfR_hv hA p3 (by rfl) (by decide) (by rfl), p4, rfv_s, nn_s, gfR_hv hA r5 (by rfl) (by decide) (by rfl), r6, rfv_s]
            rcases ix_cases v3 (n := d * rcM pw s) (by omega) with ⟨-, -, u⟩ | ⟨j, u1, u2, -⟩
            · by_cases u1 : v3 < 0
              · rw [if_pos u1]
              · rw [if_neg u1, gfI_hv hA w2 (by rfl) (by decide) (by rfl), w5, nn_s, gfI_hv hA e1 (by rfl) (by decide) (by rfl), e7, pk_mul, if_pos (u.resolve_left u1)]
            · exact absurd ⟨j, u1, u2⟩ h3
          · rw [mHead, (is_ix (by omega)).2 h3, bnd_v, if_pos rfl]
            exact mbad z1
    · refine op_ref (z := z) (ov := ov) (k := 1) (b := 0) h hF ?_ (fun _ => wc1) (by decide) (fun z1 => ?_)
      · unfold F_X7_seen
        rw [isO_hv hA t0 (by rfl) (by decide), roomAt_in h hr, bnd_v, wallAt_out hA g1 g2 g5 g8 g11 hy, bnd_t]
      · unfold F_X8_seen F_X8_seen_b21 F_X8_seen_b32
        rw [mO hM, (isWall_spec hM hr g8 g10).2 hy, bnd_v, if_pos rfl, if_pos rfl, mO hM, ref1 hM, bnd_v, if_pos rfl]
  · refine op_ref (z := z) (ov := ov) (k := 1) (b := 0) h hF ?_ (fun _ => wc1) (by decide) (fun z1 => ?_)
    · unfold F_X7_seen
      rw [isO_hv hA t0 (by rfl) (by decide), roomAt_out h hx, bnd_t]
    · unfold F_X8_seen F_X8_seen_b21 F_X8_seen_b32
      rw [mO hM, isWall_out hx, bnd_v, if_pos rfl, if_pos rfl, mO hM, ref1 hM, bnd_v, if_pos rfl]
end SE
