/-! lengthen -/
section LG
variable {A : Adr} {iv : IVt} {rv : RVt} {ov : Nat → Int64} {z np nr nl : Nat}
theorem sc10 {v1 v2 v3 : Int32} (h : INV A iv rv np nr nl) (hF : RFA A rv) : OP A cs_L_lengthen (F_X7_lengthen (A.1 0 0) v1 v2 v3 (z, hv A iv rv ov)) (F_X8_lengthen (A.1 20 0) v1 v2 v3) := by
  have hM := h.1
  have hA := hM.1
  obtain ⟨⟨t0, -⟩, -⟩ := id h.2.1
  obtain ⟨-, -, -, -, -, -, c1, c2, c3, c4, -⟩ := id h.2.2.1
  have mbad : ∀ (z1 : Nat) (x1 x3 x5 : Int32) (k : Nat), k = 1 ∨ k = 2 ∨ k = 3 → F_X8_lengthen_b92 (A.1 20 0) x1 x3 x5 (nI k) (A.1 20 0) (z1, hv A iv rv ov) = rtv 0 (z1, hv A (u3 iv 20 0 0 (nI k)) rv ov) := by
    intro z1 x1 x3 x5 k hk
    unfold F_X8_lengthen_b92
    rw [mO hM, refused_spec hM (by omega), bnd_v]
    rcases hk with rfl | rfl | rfl <;> rfl
  by_cases hx : ∃ j, j < 4 ∧ v1 = nI j
  · obtain ⟨r, hr, rfl⟩ := hx
    obtain ⟨g1, g2, g3, g4, g5, g6, g7, n, g8, g9, g10, g11, g12, g13, g14⟩ := h.2.2.2.2.2.2 r hr
    by_cases hy : ∃ j, j < n ∧ v2 = nI j
    · have hy' := hy
      obtain ⟨w, hw, rfl⟩ := hy
      have cHead : ∀ K : Nat → Nat → hpT → Rs Int32, isO (z, hv A iv rv ov) (A.1 0 0) 7 (bnd (F_X7_roomAt (A.1 0 0) (nI r) (z, hv A iv rv ov)) fun a21 h21 => bnd (F_X7_wallAt a21 (nI w) h21) fun a22 h22 => K a21 a22 h22) = K (A.1 12 r) (A.1 16 (4 * r + w)) (z, hv A iv rv ov) := by
        intro K
        rw [isO_hv hA t0 (by rfl) (by decide), roomAt_in h hr, bnd_v, wallAt_in hA g1 g2 g5 g8 g11 hw, bnd_v]
      have mHead : ∀ (z1 : Nat) iv' rv' (ov' : Nat → Int64), MD A rv' → iv' 32 0 r = nI n → F_X8_lengthen (A.1 20 0) (nI r) (nI w) v3 (z1, hv A iv' rv' ov') = F_X8_lengthen_b22 (A.1 20 0) (nI r) v3 1 (nI (4 * r + w)) (z1, hv A iv' rv' ov') := by
        intro z1 iv' rv' ov' hM' h32
        unfold F_X8_lengthen
        rw [mO hM', (isWall_spec hM' hr g8 h32).1 hy', bnd_v, if_neg (by decide), wix]
      obtain ⟨D, hh, w1, w2, w3, w4, w5, w6, w7, w8, w9, w10, w11, w12⟩ := id (g13 w hw)
      by_cases hv3 : inR v3 1 12
      · have hv3' := hv3
        obtain ⟨d, rfl, hd1, hd2⟩ := rg_of (a := 1) (b := 12) (by decide) (by decide) hv3
        rcases g14 with ⟨b1, b2⟩ | ⟨l, b1, b2, o, ph, L, R, kk, q, q1, q2, q3, q4, q5, q6, q7, q8, q9, q10, q11, q12, q13, q14, q15, q16, q17, q18⟩
        · refine op_ref (z := z) (ov := ov) (k := 3) (b := 0) h hF ?_ (fun _ => wc3 (by decide) (by decide)) (by decide) (fun z1 => ?_)
          · unfold F_X7_lengthen
            refine (cHead _).trans ?_
            rw [req_in hv3', bnd_v, gfR_hv hA g1 (by rfl) (by decide) (by rfl), b1, rfv_n, nlc_n]
          · rw [mHead z1 iv rv ov hM g10]
            unfold F_X8_lengthen_b22 F_X8_lengthen_b55 F_X8_lengthen_b56
            rw [if_neg (by decide), mO hM, mHung_n hM hr b2, bnd_v, if_pos rfl, if_neg (by decide), is_in hv3', bnd_v, if_neg (by decide), if_pos rfl]
            exact mbad z1 _ _ _ 3 (by omega)
        · have l10 : l < 10 := by omega
          by_cases h24 : D + d ≤ 24
          · obtain ⟨lq, lR0, lL0, p1, p2, p3, p4, p5, p6, p7, p8, p9, p10, p11, p12, p13, p14⟩ := h.2.2.2.2.2.1 l b1
            obtain ⟨q', L', R', m', hq', -, hC, hL, h30, hR1⟩ := lot_of h b1
            obtain ⟨a1, a2, a3, a4, a5, a6, a7, a8, a9, a10, a11⟩ := hC
            have eL : L' = L := nI_inj (by omega) (by omega) (a7.symm.trans q10)
            have eq' : q' = q := by
              rw [a4] at q13
              cases q13
              rfl
            subst eq' eL
            have eR : R' = R := nI_inj (by omega) (by omega) (a8.symm.trans q14)
            have em : m' = kk := nI_inj (by omega) (by omega) (a6.symm.trans q5)
            subst eR em
            have hk16 : 4 * r + w < 16 := by omega
            have eN : ∀ t, t < o → iv 15 r t = nI (iv 15 r t).toNatClampNeg ∧ iv 38 0 (20 * r + t) = nI (iv 15 r t).toNatClampNeg ∧ (iv 15 r t).toNatClampNeg ≤ 200 := by
              intro t ht
              obtain ⟨e, e1, e2, e3⟩ := q17 t ht
              rw [e1, nI_clamp (by omega)]
              exact ⟨rfl, e2, e3⟩
            have hS0 : SOK L' R' ph (o + m') (o, fun t => (iv 15 r t).toNatClampNeg) := ⟨by show o ≤ o + m'; omega, q6, q11, q15, q16, fun t ht => (eN t ht).2.2⟩
            have C1 : CKS A (u3 (u3 iv 14 r 2 (nI (o + m'))) 16 (4 * r + w) 2 (nI (D + d))) rv r L' R' ph (o + m') (o, fun t => (iv 15 r t).toNatClampNeg) := ⟨g3, g4, g7, by rw [u3_T (by decide), u3_n (by omega)]; exact q3, by rw [u3_T (by decide), u3_s], by rw [u3_T (by decide), u3_n (by omega)]; exact q9, by rw [u3_T (by decide), u3_n (by omega)]; exact q12, by rw [u3_T (by decide), u3_n (by omega)]; exact q7, fun t ht => by rw [u3_T (by decide), u3_T (by decide)]; exact (eN t ht).1, hS0⟩
            obtain ⟨T1, T2⟩ := drops6_spec (z := z) (ov := ov) (k := 4 * r + w) (Dk := D + d) (d := D) (h := hh) (fun _ => (0, 0)) hA w2 w3 w4 h24 w12 (by omega) u3_s (by rw [u3_n (by omega), u3_T (by decide)]; exact w9) C1
            rw [Nat.add_sub_cancel_left] at T1 T2
            have le24 : nI D + nI d ≤ 24 := by rw [nI_add]; exact nI_le (b := 24) h24 (by decide)
            have nl24 : ¬ (24 : Int32) < nI D + nI d := by rw [nI_add]; exact nI_nlt (a := 24) h24 (by decide)
            -- the class up to the new drops
            have cLen : F_X5_lengthenFrom (A.1 12 r) (A.1 11 l) (A.1 16 (4 * r + w)) (nI d) (z, hv A iv rv ov) = bnd (F_X6_takeDrops (A.1 16 (4 * r + w)) (A.1 14 r) (nI D) (z, hv A (u3 (u3 iv 14 r 2 (nI (o + m'))) 16 (4 * r + w) 2 (nI (D + d))) rv ov)) fun x32 h32 => (if x32 = 0 then rtZ x32 h32 else gfI h32 (A.1 11 l) 1 4 fun x33 => gfR h32 (A.1 12 r) 5 1 fun r34 => nn r34 fun a35 => gfI h32 a35 2 1 fun x36 => pf h32 (A.1 11 l) 1 4 (.int (x33 - (x36 - nI o))) fun h37 => rtZ x32 h37) := by
              unfold F_X5_lengthenFrom
              rw [gfI_hv hA w2 (by rfl) (by decide) (by rfl), w5, gfR_hv hA g1 (by rfl) (by decide) (by rfl), g6, rfv_s, nn_s, gfI_hv hA g3 (by rfl) (by decide) (by rfl), q3, gfR_hv hA g1 (by rfl) (by decide) (by rfl), g6, rfv_s, gfI_hv hA p3 (by rfl) (by decide) (by rfl), q5, nn_s, nI_add o m', pf_hv hA g3 (by rfl) (by decide) (by rfl), nI_add D d, pf_hv hA w2 (by rfl) (by decide) (by rfl), gfR_hv hA g1 (by rfl) (by decide) (by rfl), g6, rfv_s, nn_s, isO_hv hA w2 (by rfl) (by decide)]
            -- the reference up to the new drops
            have mMid : ∀ (z1 : Nat) iv' rv' (ov' : Nat → Int64), MD A rv' → iv' 32 0 r = nI n → iv' 35 0 r = nI l → iv' 33 0 (4 * r + w) = nI D → iv' 37 0 r = nI o → F_X8_lengthen (A.1 20 0) (nI r) (nI w) (nI d) (z1, hv A iv' rv' ov') = F_X8_lengthen_b125 1000 (A.1 20 0) (nI r) (nI d) (nI (4 * r + w)) (nI l) (nI o) (nI 0) (z1, hv A (u3 (u3 iv' 20 0 0 0) 20 0 23 (nI o)) rv' ov') := by
              intro z1 iv' rv' ov' hM' h32 h35 h33 h37
              rw [mHead z1 iv' rv' ov' hM' h32]
              unfold F_X8_lengthen_b22 F_X8_lengthen_b55 F_X8_lengthen_b56 F_X8_lengthen_b92
              rw [if_neg (by decide), mO hM', mHung_s hM' hr l10 h35, bnd_v, if_neg (by decide), mR16 hM', nn_s, mA16 hM' hk16, h33, if_neg nl24, if_neg (by decide), is_in hv3', bnd_v, if_neg (by decide), if_neg (by decide), mO hM', ref0 hM', bnd_v, if_pos rfl, mR18 hM', nn_s, mA18 hM' hr, u3_T (by decide), h35, mR20 hM', nn_s, mA20 hM' hr, u3_T (by decide), h37, mP23 hM']
              rfl
            have mTail : ∀ (rv' : RVt) (ivS : IVt), MD A rv' → (∀ T i j, T ≠ 0 → T ≠ 11 → T ≠ 14 → T ≠ 15 → T ≠ 16 → T ≠ 17 → ivS T i j = iv T i j) →
                (drps L' R' ph hh (o + m') d D (o, fun t => (iv 15 r t).toNatClampNeg) (fun _ => (0, 0)) = none → ∃ iv4, (∀ z1 ov', F_X8_lengthen (A.1 20 0) (nI r) (nI w) (nI d) (z1, hv A ivS rv' ov') = F_X8_lengthen_b259 (A.1 20 0) (nI r) (nI d) (nI (4 * r + w)) (nI l) (nI o) 0 (z1, hv A iv4 rv' ov')) ∧ iv4 20 0 0 = 0 ∧ ∀ T i j, ¬ (T = 20 ∧ (j = 0 ∨ j = 23 ∨ j = 24 ∨ j = 25)) → T ≠ 39 → ¬ ((T = 40 ∨ T = 41) ∧ 24 * (4 * r + w) + D ≤ j ∧ j < 24 * (4 * r + w) + 24) → iv4 T i j = ivS T i j) ∧
                (∀ s' c', drps L' R' ph hh (o + m') d D (o, fun t => (iv 15 r t).toNatClampNeg) (fun _ => (0, 0)) = some (s', c') → ∃ iv4, (∀ z1 ov', F_X8_lengthen (A.1 20 0) (nI r) (nI w) (nI d) (z1, hv A ivS rv' ov') = F_X8_lengthen_b259 (A.1 20 0) (nI r) (nI d) (nI (4 * r + w)) (nI l) (nI o) 1 (z1, hv A iv4 rv' ov')) ∧ iv4 20 0 0 = 0 ∧ (∀ T i j, ¬ (T = 20 ∧ (j = 0 ∨ j = 23 ∨ j = 24 ∨ j = 25)) → T ≠ 39 → ¬ ((T = 40 ∨ T = 41) ∧ 24 * (4 * r + w) + D ≤ j ∧ j < 24 * (4 * r + w) + 24) → iv4 T i j = ivS T i j) ∧ MKS iv4 s' ∧ ∀ j, D ≤ j → j < D + d → iv4 40 0 (24 * (4 * r + w) + j) = nI (c' j).1 ∧ iv4 41 0 (24 * (4 * r + w) + j) = nI (c' j).2) := by
              intro rv' ivS hM' hS
              obtain ⟨iv3, i1, i2, i3, -⟩ := mtried (r := r) (l := l) (d := d) hM' hr (show o ≤ 20 by omega) hk16 o 0 1000 (by omega) (by omega) (u3 (u3 ivS 20 0 0 0) 20 0 23 (nI o))
              have k1 : ∀ T i j, T ≠ 0 → T ≠ 11 → T ≠ 14 → T ≠ 15 → T ≠ 16 → T ≠ 17 → T ≠ 20 → T ≠ 39 → iv3 T i j = iv T i j := fun T i j x1 x2 x3 x4 x5 x6 x7 x8 => by rw [i2 T i j x8, u3_T x7, u3_T x7, hS T i j x1 x2 x3 x4 x5 x6]
              have e33 : u3 (u3 ivS 20 0 0 0) 20 0 23 (nI o) 33 0 (4 * r + w) = nI D := by rw [u3_T (by decide), u3_T (by decide), hS _ _ _ (by decide) (by decide) (by decide) (by decide) (by decide) (by decide), w6]
              have K3 : MKS iv3 (o, fun t => (iv 15 r t).toNatClampNeg) := ⟨by rw [i2 _ _ _ (by decide), u3_s], fun t ht => by
                have ht' : t < o := ht
                rw [i3 t (Nat.zero_le _) ht', u3_T (by decide), u3_T (by decide), hS _ _ _ (by decide) (by decide) (by decide) (by decide) (by decide) (by decide)]
                exact (eN t ht').2.1⟩
              have L3 : MLT iv3 l L' R' := hL.to (fun T j hT => k1 _ _ _ (by omega) (by omega) (by omega) (by omega) (by omega) (by omega) (by omega) (by omega))
              obtain ⟨M1, M2⟩ := mlen169 (r := r) (l := l) (o := o) (kk := m') (D := D) (d := d) (h := hh) (p := ph) (L := L') (R := R') hM' hr hk16 h24 w12 rfl d D 1000 (by omega) (by omega) iv3 (o, fun t => (iv 15 r t).toNatClampNeg) (fun _ => (0, 0)) ((k1 _ _ _ (by decide) (by decide) (by decide) (by decide) (by decide) (by decide) (by decide) (by decide)).trans w6) ((k1 _ _ _ (by decide) (by decide) (by decide) (by decide) (by decide) (by decide) (by decide) (by decide)).trans w10) ((k1 _ _ _ (by decide) (by decide) (by decide) (by decide) (by decide) (by decide) (by decide) (by decide)).trans q8) ((k1 _ _ _ (by decide) (by decide) (by decide) (by decide) (by decide) (by decide) (by decide) (by decide)).trans h30) L3 K3 hS0
              have fr : ∀ iv4, MFQ (4 * r + w) D iv3 iv4 → iv4 20 0 0 = 0 ∧ ∀ T i j, ¬ (T = 20 ∧ (j = 0 ∨ j = 23 ∨ j = 24 ∨ j = 25)) → T ≠ 39 → ¬ ((T = 40 ∨ T = 41) ∧ 24 * (4 * r + w) + D ≤ j ∧ j < 24 * (4 * r + w) + 24) → iv4 T i j = ivS T i j := by
                intro iv4 F4
                refine ⟨by rw [F4 _ _ _ (by omega) (by decide) (by omega), i2 _ _ _ (by decide), u3_n (by omega), u3_s], fun T i j x1 x2 x3 => ?_⟩
                rw [F4 T i j (by omega) x2 x3, i2 T i j x2, u3_n (by omega), u3_n (by omega)]
              have st : ∀ z1 ov', F_X8_lengthen (A.1 20 0) (nI r) (nI w) (nI d) (z1, hv A ivS rv' ov') = F_X8_lengthen_b169 1000 (A.1 20 0) (nI r) (nI d) (nI (4 * r + w)) (nI l) (nI o) 1 (nI D) (z1, hv A iv3 rv' ov') := by
                intro z1 ov'
                rw [mMid z1 ivS rv' ov' hM' ((hS _ _ _ (by decide) (by decide) (by decide) (by decide) (by decide) (by decide)).trans g10) ((hS _ _ _ (by decide) (by decide) (by decide) (by decide) (by decide) (by decide)).trans q2) ((hS _ _ _ (by decide) (by decide) (by decide) (by decide) (by decide) (by decide)).trans w6) ((hS _ _ _ (by decide) (by decide) (by decide) (by decide) (by decide) (by decide)).trans q4), i1, e33]
              refine ⟨fun x => ?_, fun s' c' x => ?_⟩
              · obtain ⟨iv4, y1, y2⟩ := M1 x
                exact ⟨iv4, fun z1 ov' => (st z1 ov').trans (y1 z1 ov'), fr iv4 y2⟩
              · obtain ⟨iv4, y1, y2, y3, y4⟩ := M2 s' c' x
                exact ⟨iv4, fun z1 ov' => (st z1 ov').trans (y1 z1 ov'), (fr iv4 y2).1, (fr iv4 y2).2, y3, y4⟩
            cases hst : drps L' R' ph hh (o + m') d D (o, fun t => (iv 15 r t).toNatClampNeg) (fun _ => (0, 0)) with
            | none =>
              obtain ⟨iv2, E1, E2⟩ := T1 hst
              have F2 : ∀ T i j, T ≠ 14 → T ≠ 15 → T ≠ 16 → T ≠ 17 → iv2 T i j = iv T i j := fun T i j x1 x2 x3 x4 => by rw [E2 T i j (fun q => x1 q.1) (fun q => x2 q.1) (fun q => x4 q.1), u3_T x3, u3_T x1]
              have hM' : MD A (u3 rv 12 r 3 none) := hM.rvto (fun j => u3_T (by decide))
              obtain ⟨iv4, M1, M2, M3⟩ := (mTail (u3 rv 12 r 3 none) (u3 iv2 0 0 7 (iv 0 0 7 + nI o * nI L')) hM' (fun T i j x1 x2 x3 x4 x5 x6 => by rw [u3_T x1, F2 T i j x3 x4 x5 x6])).1 hst
              have M4 : ∀ T i j, T ≠ 0 → T ≠ 14 → T ≠ 15 → T ≠ 16 → T ≠ 17 → ¬ (T = 20 ∧ (j = 0 ∨ j = 23 ∨ j = 24 ∨ j = 25)) → T ≠ 39 → ¬ ((T = 40 ∨ T = 41) ∧ 24 * (4 * r + w) + D ≤ j ∧ j < 24 * (4 * r + w) + 24) → iv4 T i j = iv T i j := fun T i j x1 x2 x3 x4 x5 x6 x7 x8 => by rw [M3 T i j x6 x7 x8, u3_T x1, F2 T i j x2 x3 x4 x5]
              have N1 := fun z1 ov' => mlen259n (z := z1) (ov := ov') (iv := iv4) (r := r) (l := l) (k := 4 * r + w) (D := D) (d := d) (o := o) (L := L') hM' hr hk16 l10 ((M4 _ _ _ (by decide) (by decide) (by decide) (by decide) (by decide) (by omega) (by decide) (by omega)).trans w6) ((M4 _ _ _ (by decide) (by decide) (by decide) (by decide) (by decide) (by omega) (by decide) (by omega)).trans q4) ((M4 _ _ _ (by decide) (by decide) (by decide) (by decide) (by decide) (by omega) (by decide) (by omega)).trans q2) ((M4 _ _ _ (by decide) (by decide) (by decide) (by decide) (by decide) (by omega) (by decide) (by omega)).trans hL.2.1)
              rw [M4 20 0 28 (by decide) (by decide) (by decide) (by decide) (by decide) (by omega) (by decide) (by omega), c4] at N1
              refine fin_ok (x := -1) (A := A) (iv1 := u3 iv2 0 0 7 (iv 0 0 7 + nI o * nI L')) (iv2 := u3 (u3 (u3 iv4 33 0 (4 * r + w) (nI (D + d))) 20 0 28 (iv 0 0 7 + nI o * nI L')) 35 0 r (-1)) (rv := u3 rv 12 r 3 none) (ov := ov) (z := z) (np := np) (nr := nr) (nl := nl) ?_ (fun z1 ov' => ?_) ?_ hF.nul rfl rfl rfl ?_
              · unfold F_X7_lengthen
                refine (cHead _).trans ?_
                rw [req_in hv3', bnd_v, gfR_hv hA g1 (by rfl) (by decide) (by rfl), b2, rfv_s, nlc_s, gfI_hv hA w2 (by rfl) (by decide) (by rfl), w5, if_pos le24, gfR_hv hA g1 (by rfl) (by decide) (by rfl), g6, rfv_s, nn_s, gfI_hv hA g3 (by rfl) (by decide) (by rfl), q3, isO_hv hA g1 (by rfl) (by decide), cLen, E1, bnd_v, if_pos rfl, rtZ_0, bnd_v, if_pos rfl, isO_hv hA t0 (by rfl) (by decide), lose_spec hA t0 p3, bnd_v, isO_hv hA g1 (by rfl) (by decide), bare_spec hA g1, bnd_v, F2 _ _ _ (by decide) (by decide) (by decide) (by decide), F2 _ _ _ (by decide) (by decide) (by decide) (by decide), q10]
              · rw [M1, N1]
              · rw [u3_T (by decide), u3_n (by omega), u3_T (by decide), M2]
              · have Ia : INV A (u3 (u3 (u3 iv 0 0 7 (iv 0 0 7 + nI o * nI L')) 20 0 28 (iv 0 0 7 + nI o * nI L')) 35 0 r (-1)) (u3 rv 12 r 3 none) np nr nl := h.bared hr (fun T i j x1 x2 x3 x4 => by rw [u3_T x3, u3_T x2, u3_T x1]) (fun j hj => by rw [u3_T (by decide), u3_T (by decide), u3_n (by omega)]) (fun j x1 x2 x3 x4 x5 => by rw [u3_T (by decide), u3_n (by omega), u3_T (by decide)]) (by rw [u3_T (by decide), u3_s, u3_T (by decide), u3_T (by decide), u3_s]) (fun i hi => by rw [u3_n (by omega), u3_T (by decide), u3_T (by decide)]) u3_s
                have Ib : INV A (u3 (u3 (u3 (u3 (u3 iv4 33 0 (4 * r + w) (nI (D + d))) 20 0 28 (iv 0 0 7 + nI o * nI L')) 35 0 r (-1)) 16 (4 * r + w) 2 (nI D)) 33 0 (4 * r + w) (nI D)) (u3 rv 12 r 3 none) np nr nl := by
                  refine Ia.scr hr ⟨u3_s, u3_s⟩ (fun T i j x1 x2 x3 x4 x5 x6 => ?_) (fun j x1 x2 x3 x4 => ?_)
                  · by_cases y1 : T = 33 ∧ i = 0 ∧ j = 4 * r + w
                    · obtain ⟨rfl, rfl, rfl⟩ := y1
                      rw [u3_s, u3_T (by decide), u3_T (by decide), u3_T (by decide), w6]
                    · rw [u3_n y1]
                      by_cases y2 : T = 16 ∧ i = 4 * r + w ∧ j = 2
                      · obtain ⟨rfl, rfl, rfl⟩ := y2
                        rw [u3_s, u3_T (by decide), u3_T (by decide), u3_T (by decide), w5]
                      · rw [u3_n y2]
                        by_cases y3 : T = 35 ∧ i = 0 ∧ j = r
                        · rw [y3.1, y3.2.1, y3.2.2, u3_s, u3_s]
                        · rw [u3_n y3, u3_n y3, u3_T x4, u3_T x4, u3_n y1, M3 T i j (fun q => x4 q.1) x5 (by omega)]
                          by_cases y4 : T = 0 ∧ i = 0 ∧ j = 7
                          · rw [y4.1, y4.2.1, y4.2.2, u3_s, u3_s]
                          · rw [u3_n y4, u3_n y4, E2 T i j (fun q => x1 ⟨q.1, q.2.1⟩) x2 (by omega), u3_n y2, u3_n (fun q => x1 ⟨q.1, q.2.1⟩)]
                  · rw [u3_T (by decide), u3_T (by decide), u3_T (by decide), u3_T (by decide : 20 ≠ 35)]
                    by_cases y : j = 28
                    · rw [y, u3_s, u3_s]
                    · rw [u3_n (by omega), u3_n (by omega), M4 _ _ _ (by decide) (by decide) (by decide) (by decide) (by decide) (by omega) (by decide) (by omega), u3_n (by omega), u3_T (by decide)]
                have hDD := w7
                refine Ib.dlen (w := w) (D' := D + d) hr (by omega) ⟨u3_s, ?_⟩ (fun T i j x1 x2 => ?_) ?_ ?_ (by omega) h24
                · rw [u3_T (by decide), u3_T (by decide), u3_s]
                · rw [u3_n x2, u3_n x1]
                · rw [u3_T (by decide), u3_T (by decide), u3_T (by decide), M3 _ _ _ (by omega) (by decide) (by omega), u3_T (by decide), E2 _ _ _ (by omega) (by omega) (by omega), u3_s]
                · rw [u3_T (by decide), u3_T (by decide), u3_s]
            | some sc =>
              obtain ⟨s', c'⟩ := sc
              obtain ⟨iv2, E1, E2, E3, E4, E5⟩ := T2 s' c' hst
              obtain ⟨o1, o2, o3, o4⟩ := drps_ok _ _ _ _ _ _ hS0 hst
              have o2' : o ≤ s'.1 := o2
              have s20 : s'.1 ≤ o + m' := o1.1
              have hko : s'.1 - o ≤ m' := by omega
              have F2 : ∀ T i j, T ≠ 14 → T ≠ 15 → T ≠ 16 → T ≠ 17 → iv2 T i j = iv T i j := fun T i j x1 x2 x3 x4 => by rw [E2 T i j (fun q => x1 q.1) (fun q => x2 q.1) (fun q => x4 q.1), u3_T x3, u3_T x1]
              obtain ⟨iv4, M1, M2, M3, M5, M6⟩ := (mTail rv (u3 iv2 11 l 4 (nI (m' - (s'.1 - o)))) hM (fun T i j x1 x2 x3 x4 x5 x6 => by rw [u3_T x2, F2 T i j x3 x4 x5 x6])).2 s' c' hst
              have M4 : ∀ T i j, T ≠ 11 → T ≠ 14 → T ≠ 15 → T ≠ 16 → T ≠ 17 → ¬ (T = 20 ∧ (j = 0 ∨ j = 23 ∨ j = 24 ∨ j = 25)) → T ≠ 39 → ¬ ((T = 40 ∨ T = 41) ∧ 24 * (4 * r + w) + D ≤ j ∧ j < 24 * (4 * r + w) + 24) → iv4 T i j = iv T i j := fun T i j x1 x2 x3 x4 x5 x6 x7 x8 => by rw [M3 T i j x6 x7 x8, u3_T x1, F2 T i j x2 x3 x4 x5]
              obtain ⟨iv5, N1, N2, N3, N4, N5, N6⟩ := mlen259y (iv := iv4) (r := r) (l := l) (k := 4 * r + w) (D := D) (d := d) (o := o) (kk := m') (c := s'.1) hM hr hk16 l10 ((M4 _ _ _ (by decide) (by decide) (by decide) (by decide) (by decide) (by omega) (by decide) (by omega)).trans w6) M5.1 (by omega) ((M4 _ _ _ (by decide) (by decide) (by decide) (by decide) (by decide) (by omega) (by decide) (by omega)).trans h30) o2' hko
              refine fin_ok (x := nI (s'.1 - o)) (A := A) (iv1 := u3 iv2 11 l 4 (nI (m' - (s'.1 - o)))) (iv2 := iv5) (rv := rv) (ov := ov) (z := z) (np := np) (nr := nr) (nl := nl) ?_ (fun z1 ov' => ?_) ?_ hF rfl rfl rfl ?_
              · unfold F_X7_lengthen
                refine (cHead _).trans ?_
                rw [req_in hv3', bnd_v, gfR_hv hA g1 (by rfl) (by decide) (by rfl), b2, rfv_s, nlc_s, gfI_hv hA w2 (by rfl) (by decide) (by rfl), w5, if_pos le24, gfR_hv hA g1 (by rfl) (by decide) (by rfl), g6, rfv_s, nn_s, gfI_hv hA g3 (by rfl) (by decide) (by rfl), q3, isO_hv hA g1 (by rfl) (by decide), cLen, E1, bnd_v, if_neg (by decide), gfI_hv hA p3 (by rfl) (by decide) (by rfl), F2 _ _ _ (by decide) (by decide) (by decide) (by decide), q5, gfR_hv hA g1 (by rfl) (by decide) (by rfl), g6, rfv_s, nn_s, gfI_hv hA g3 (by rfl) (by decide) (by rfl), E3.2.2.2.1, pk_sub o2', pk_sub hko, pf_hv hA p3 (by rfl) (by decide) (by rfl), rtZ_1, bnd_v, if_neg (by decide), gfR_hv hA g1 (by rfl) (by decide) (by rfl), g6, rfv_s, nn_s, gfI_hv hA g3 (by rfl) (by decide) (by rfl), u3_T (by decide), E3.2.2.2.1, pk_sub o2']
              · rw [M1, N1]
              · rw [N6 _ _ _ (by omega) (by omega) (by omega) (by omega), M2]
              · have e : ∀ T i j, T ≠ 11 ∧ T ≠ 14 ∧ T ≠ 15 ∧ T ≠ 16 ∧ T ≠ 17 ∧ T ≠ 20 ∧ T ≠ 30 ∧ T ≠ 33 ∧ T ≠ 37 ∧ T ≠ 38 ∧ T ≠ 39 ∧ T ≠ 40 ∧ T ≠ 41 → iv5 T i j = iv T i j := by
                  rintro T i j ⟨x1, x2, x3, x4, x5, x6, x7, x8, x9, x10, x11, x12, x13⟩
                  rw [N6 T i j (fun q => x8 q.1) (fun q => x9 q.1) (fun q => x10 q.1) (fun q => x7 q.1), M4 T i j x1 x2 x3 x4 x5 (fun q => x6 q.1) x11 (fun q => q.1.elim x12 x13)]
                have ec : ∀ T i j, T = 14 ∨ T = 15 ∨ T = 16 ∨ T = 17 → iv5 T i j = iv2 T i j := by
                  intro T i j hT
                  rw [N6 T i j (by omega) (by omega) (by omega) (by omega), M3 T i j (by omega) (by omega) (by omega), u3_T (by omega)]
                have e11 : ∀ i j, i ≠ l ∨ j ≠ 4 → iv5 11 i j = iv 11 i j := by
                  intro i j hi
                  rw [N6 _ _ _ (by omega) (by omega) (by omega) (by omega), M3 _ _ _ (by omega) (by decide) (by omega), u3_n (by omega), F2 _ _ _ (by decide) (by decide) (by decide) (by decide)]
                have e114 : iv5 11 l 4 = nI (m' - (s'.1 - o)) := by
                  rw [N6 _ _ _ (by omega) (by omega) (by omega) (by omega), M3 _ _ _ (by omega) (by decide) (by omega), u3_s]
                have eo : ∀ T i j, T ≠ 11 → T ≠ 14 → T ≠ 15 → T ≠ 16 → T ≠ 17 → T ≠ 20 → T ≠ 39 → ¬ ((T = 40 ∨ T = 41) ∧ 24 * (4 * r + w) + D ≤ j ∧ j < 24 * (4 * r + w) + 24) → ¬ (T = 33 ∧ i = 0 ∧ j = 4 * r + w) → ¬ (T = 37 ∧ i = 0 ∧ j = r) → ¬ (T = 38 ∧ 20 * r ≤ j ∧ j < 20 * r + 20) → ¬ (T = 30 ∧ i = 0 ∧ j = l) → iv5 T i j = iv T i j := by
                  intro T i j x1 x2 x3 x4 x5 x6 x7 x8 x9 x10 x11 x12
                  rw [N6 T i j x9 x10 x11 x12, M4 T i j x1 x2 x3 x4 x5 (fun q => x6 q.1) x7 x8]
                have e1617 : ∀ T i j, T = 16 ∨ T = 17 → i ≠ 4 * r + w → iv5 T i j = iv T i j := by
                  intro T i j hT hi
                  rw [ec _ _ _ (by omega), E2 _ _ _ (by omega) (by omega) (by omega), u3_n (by omega), u3_n (by omega)]
                have e160 : iv5 16 (4 * r + w) 0 = iv 16 (4 * r + w) 0 := by
                  rw [ec _ _ _ (by omega), E2 _ _ _ (by omega) (by omega) (by omega), u3_n (by omega), u3_n (by omega)]
                have e162 : iv5 16 (4 * r + w) 2 = nI (D + d) := by
                  rw [ec _ _ _ (by omega), E2 _ _ _ (by omega) (by omega) (by omega), u3_s]
                refine h.long (l := l) (kk := m') (w := w) (m' := m' - (s'.1 - o)) hr (by omega) q5 (by omega) (by omega) e e11 e114 (fun i hi => eo _ _ _ (by decide) (by decide) (by decide) (by decide) (by decide) (by decide) (by decide) (by omega) (by omega) (by omega) (by omega) (by omega)) N4 (fun i j hi => ⟨?_, ?_⟩) (fun i j hi => ⟨e1617 _ _ _ (by omega) hi, e1617 _ _ _ (by omega) hi⟩) (fun j x1 x2 x3 x4 => ?_) (fun i hi => eo _ _ _ (by decide) (by decide) (by decide) (by decide) (by decide) (by decide) (by decide) (by omega) (by omega) (by omega) (by omega) (by omega)) (fun i hi => eo _ _ _ (by decide) (by decide) (by decide) (by decide) (by decide) (by decide) (by decide) (by omega) (by omega) (by omega) (by omega) (by omega)) (fun j hj => eo _ _ _ (by decide) (by decide) (by decide) (by decide) (by decide) (by decide) (by decide) (by omega) (by omega) (by omega) (by omega) (by omega)) (fun j hj => ⟨eo _ _ _ (by decide) (by decide) (by decide) (by decide) (by decide) (by decide) (by decide) (by omega) (by omega) (by omega) (by omega) (by omega), eo _ _ _ (by decide) (by decide) (by decide) (by decide) (by decide) (by decide) (by decide) (by omega) (by omega) (by omega) (by omega) (by omega)⟩) ⟨g1, g2, g3, g4, g5, g6, g7, n, g8, (e _ _ _ (by decide)).trans g9, (e _ _ _ (by decide)).trans g10, g11, g12, fun w' hw' => ?_, Or.inr ⟨l, b1, b2, s'.1, ph, L', R', m' - (s'.1 - o), q', (e _ _ _ (by decide)).trans q1, (e _ _ _ (by decide)).trans q2, (ec _ _ _ (by omega)).trans E3.2.2.2.1, N3, e114, by omega, (ec _ _ _ (by omega)).trans E3.2.2.2.2.2.2.2.1, (e _ _ _ (by decide)).trans q8, (ec _ _ _ (by omega)).trans E3.2.2.2.2.2.1, (e11 _ _ (Or.inr (by decide))).trans q10, q11, (ec _ _ _ (by omega)).trans E3.2.2.2.2.2.2.1, q13, (e _ _ _ (by decide)).trans q14, q15, q16, fun k hk => ⟨s'.2 k, (ec _ _ _ (by omega)).trans (E3.2.2.2.2.2.2.2.2.1 k hk), ?_, o1.2.2.2.2.2 k hk⟩, ?_⟩⟩
                · rw [ec _ _ _ (by omega), E2 _ _ _ (by omega) (by omega) (by omega), u3_T (by decide), u3_n (by omega)]
                · rw [ec _ _ _ (by omega), E2 _ _ _ (by omega) (by omega) (by omega), u3_T (by decide), u3_T (by decide)]
                · rw [N6 _ _ _ (by omega) (by omega) (by omega) (by omega), M4 _ _ _ (by decide) (by decide) (by decide) (by decide) (by decide) (by omega) (by decide) (by omega)]
                · by_cases hww : w' = w
                  · subst hww
                    exact ⟨D + d, hh, w1, w2, w3, w4, e162, N2, by omega, h24, e160.trans w9, (e _ _ _ (by decide)).trans w10, w11, w12⟩
                  · exact (g13 w' hw').to (fun _ _ q => q) rfl (fun j => e1617 _ _ _ (by omega) (by omega)) (eo _ _ _ (by decide) (by decide) (by decide) (by decide) (by decide) (by decide) (by decide) (by omega) (by omega) (by omega) (by omega) (by omega)) (e _ _ _ (by decide))
                · rw [N5 k hk]
                  exact M5.2 k hk
                · intro w' D' d' hw' hD' hD24 hd'
                  by_cases hww : w' = w
                  · subst hww
                    have hDe : D' = D + d := nI_inj (by omega) (by omega) (hD'.symm.trans e162)
                    subst hDe
                    by_cases hdd : d' < D
                    · obtain ⟨y1, y2, y3, y4, y5, y6, y7, y8⟩ := q18 w' D d' hw' w5 w8 hdd
                      refine ⟨y1, y2, y3, y4, y5, ?_, (eo _ _ _ (by decide) (by decide) (by decide) (by decide) (by decide) (by decide) (by decide) (by omega) (by omega) (by omega) (by omega) (by omega)).trans y7, (eo _ _ _ (by decide) (by decide) (by decide) (by decide) (by decide) (by decide) (by decide) (by omega) (by omega) (by omega) (by omega) (by omega)).trans y8⟩
                      rw [ec _ _ _ (by omega), E5 d' hdd, u3_T (by decide), u3_T (by decide), y6]
                    · obtain ⟨u1, u2, u3'⟩ := o4 d' (by omega) hd'
                      have n1 := M6 d' (by omega) hd'
                      refine ⟨(c' d').1, (c' d').2, u1, by omega, u3', (ec _ _ _ (by omega)).trans (E4 d' (by omega) hd'), ?_, ?_⟩
                      · rw [N6 _ _ _ (by omega) (by omega) (by omega) (by omega), n1.1]
                      · rw [N6 _ _ _ (by omega) (by omega) (by omega) (by omega), n1.2]
                  · rw [e1617 _ _ _ (by omega) (by omega)] at hD'
                    obtain ⟨y1, y2, y3, y4, y5, y6, y7, y8⟩ := q18 w' D' d' hw' hD' hD24 hd'
                    exact ⟨y1, y2, y3, y4, y5, (e1617 _ _ _ (by omega) (by omega)).trans y6, (eo _ _ _ (by decide) (by decide) (by decide) (by decide) (by decide) (by decide) (by decide) (by omega) (by omega) (by omega) (by omega) (by omega)).trans y7, (eo _ _ _ (by decide) (by decide) (by decide) (by decide) (by decide) (by decide) (by decide) (by omega) (by omega) (by omega) (by omega) (by omega)).trans y8⟩
          · refine op_ref (z := z) (ov := ov) (k := 3) (b := 0) h hF ?_ (fun _ => wc3 (by decide) (by decide)) (by decide) (fun z1 => ?_)
            · unfold F_X7_lengthen
              refine (cHead _).trans ?_
              rw [req_in hv3', bnd_v, gfR_hv hA g1 (by rfl) (by decide) (by rfl), b2, rfv_s, nlc_s, gfI_hv hA w2 (by rfl) (by decide) (by rfl), w5, if_neg (by rw [nI_add]; exact nI_ge (a := 24) (by omega) (by omega))]
            · rw [mHead z1 iv rv ov hM g10]
              unfold F_X8_lengthen_b22 F_X8_lengthen_b55 F_X8_lengthen_b56
              rw [if_neg (by decide), mO hM, mHung_s hM hr l10 q2, bnd_v, if_neg (by decide), mR16 hM, nn_s, mA16 hM (by omega), w6, if_pos (by rw [nI_add]; exact nI_lt (a := 24) (by omega) (by omega)), if_neg (by decide), is_in hv3', bnd_v, if_neg (by decide), if_pos rfl]
              exact mbad z1 _ _ _ 3 (by omega)
      · refine op_ref (z := z) (ov := ov) (k := 2) (b := 0) h hF ?_ (fun _ => wc2 (by decide)) (by decide) (fun z1 => ?_)
        · unfold F_X7_lengthen
          refine (cHead _).trans ?_
          rw [req_out hv3, bnd_t]
        · have m56 : ∀ xs0, F_X8_lengthen_b56 (A.1 20 0) (nI r) v3 1 (nI (4 * r + w)) xs0 (z1, hv A iv rv ov) = rtv 0 (z1, hv A (u3 iv 20 0 0 2) rv ov) := by
            intro xs0
            unfold F_X8_lengthen_b56
            rw [if_neg (by decide), is_out hv3, bnd_v, if_pos rfl]
            exact mbad z1 _ _ _ 2 (by omega)
          rw [mHead z1 iv rv ov hM g10]
          unfold F_X8_lengthen_b22 F_X8_lengthen_b55
          rcases g14 with ⟨b1, b2⟩ | ⟨l, b1, b2, o, ph, L, R, kk, q, q1, q2, -⟩
          · rw [if_neg (by decide), mO hM, mHung_n hM hr b2, bnd_v, if_pos rfl, m56]
          · rw [if_neg (by decide), mO hM, mHung_s hM hr (show l < 10 by omega) q2, bnd_v, if_neg (by decide), mR16 hM, nn_s, mA16 hM (by omega), m56, m56]
            split <;> rfl
    · refine op_ref (z := z) (ov := ov) (k := 1) (b := 0) h hF ?_ (fun _ => wc1) (by decide) (fun z1 => ?_)
      · unfold F_X7_lengthen
        rw [isO_hv hA t0 (by rfl) (by decide), roomAt_in h hr, bnd_v, wallAt_out hA g1 g2 g5 g8 g11 hy, bnd_t]
      · unfold F_X8_lengthen F_X8_lengthen_b22 F_X8_lengthen_b55 F_X8_lengthen_b56
        rw [mO hM, (isWall_spec hM hr g8 g10).2 hy, bnd_v, if_pos rfl, if_pos rfl, if_pos rfl]
        exact mbad z1 _ _ _ 1 (by omega)
  · refine op_ref (z := z) (ov := ov) (k := 1) (b := 0) h hF ?_ (fun _ => wc1) (by decide) (fun z1 => ?_)
    · unfold F_X7_lengthen
      rw [isO_hv hA t0 (by rfl) (by decide), roomAt_out h hx, bnd_t]
    · unfold F_X8_lengthen F_X8_lengthen_b22 F_X8_lengthen_b55 F_X8_lengthen_b56
      rw [mO hM, isWall_out hx, bnd_v, if_pos rfl, if_pos rfl, if_pos rfl]
      exact mbad z1 _ _ _ 1 (by omega)
end LG
