/-! lengthen -/
section LG
variable {A : Adr} {iv : IVt} {rv : RVt} {ov : Nat → Int64} {z np nr nl : Nat}
theorem k_len_w {r n : Nat} {v x : Int32} (h : INV A iv rv np nr nl) (hr : r < 4) (hn4 : n ≤ 4) (hn : iv 12 r 2 = nI n) (hv' : ¬ ∃ w, w < n ∧ v = nI w) : F_X7_lengthen (A.1 0 0) (nI r) v x (z, hv A iv rv ov) = tht IX (z, hv A iv rv ov) := by
  have hA := h.1
  obtain ⟨⟨t0, -⟩, -⟩ := id h.2.1
  obtain ⟨g1, g2, g3, g4, g5, g6, g7, n', g8, g9, g11, g12, g13, g14⟩ := h.2.2.2.2.2.2 r hr
  have en : n' = n := nI_inj (by omega) (by omega) (g9.symm.trans hn)
  subst en
  unfold F_X7_lengthen
  rw [isO_hv hA t0 (by rfl) (by decide), roomAt_in h hr, bnd_v, wallAt_out hA g1 g2 g5 g8 g11 hv', bnd_t]
theorem k_len_n {r n w d : Nat} (h : INV A iv rv np nr nl) (hr : r < 4) (hn4 : n ≤ 4) (hn : iv 12 r 2 = nI n) (hw : w < n) (hd1 : 1 ≤ d) (hd2 : d ≤ 12) (b1 : rv 12 r 3 = none) : F_X7_lengthen (A.1 0 0) (nI r) (nI w) (nI d) (z, hv A iv rv ov) = tht IS (z, hv A iv rv ov) := by
  have hA := h.1
  obtain ⟨⟨t0, -⟩, -⟩ := id h.2.1
  obtain ⟨g1, g2, g3, g4, g5, g6, g7, n', g8, g9, g11, g12, g13, g14⟩ := h.2.2.2.2.2.2 r hr
  have en : n' = n := nI_inj (by omega) (by omega) (g9.symm.trans hn)
  subst en
  unfold F_X7_lengthen
  rw [isO_hv hA t0 (by rfl) (by decide), roomAt_in h hr, bnd_v, wallAt_in hA g1 g2 g5 g8 g11 hw, bnd_v, req_in (show inR (nI d) 1 12 from rg_to (a := 1) (b := 12) hd1 hd2 (by decide)), bnd_v, gfR_hv hA g1 (by rfl) (by decide) (by rfl), b1, rfv_n, nlc_n]
theorem k_len {r n w d l : Nat} (h : INV A iv rv np nr nl) (hr : r < 4) (hn4 : n ≤ 4) (hn : iv 12 r 2 = nI n) (hw : w < n) (hd1 : 1 ≤ d) (hd2 : d ≤ 12) (hl : l < nl) (b2 : rv 12 r 3 = some (11, l)) :
    F_X7_lengthen (A.1 0 0) (nI r) (nI w) (nI d) (z, hv A iv rv ov) = tht IS (z, hv A iv rv ov) ∨
    ∃ iv' o D L, iv 14 r 1 = nI o ∧ o ≤ 20 ∧ iv 16 (4 * r + w) 2 = nI D ∧ D + d ≤ 24 ∧ iv' 16 (4 * r + w) 2 = nI (D + d) ∧ (∀ i j, i ≠ 4 * r + w ∨ j ≠ 2 → iv' 16 i j = iv 16 i j) ∧ iv 11 l 3 = nI L ∧ L ≤ 200 ∧
      ((∃ o', o ≤ o' ∧ o' ≤ 20 ∧ F_X7_lengthen (A.1 0 0) (nI r) (nI w) (nI d) (z, hv A iv rv ov) = rtv (nI (o' - o)) (z, hv A iv' rv ov) ∧ iv' 14 r 1 = nI o' ∧ INV A iv' rv np nr nl ∧ ∀ T i j, T ≠ 11 ∧ T ≠ 14 ∧ T ≠ 15 ∧ T ≠ 16 ∧ T ≠ 17 → iv' T i j = iv T i j) ∨
       (F_X7_lengthen (A.1 0 0) (nI r) (nI w) (nI d) (z, hv A iv rv ov) = rtv (-1) (z, hv A iv' (u3 rv 12 r 3 none) ov) ∧ INV A iv' (u3 rv 12 r 3 none) np nr nl ∧ iv' 0 0 7 = iv 0 0 7 + nI (o * L) ∧ ∀ T i j, T ≠ 0 ∧ T ≠ 14 ∧ T ≠ 15 ∧ T ≠ 16 ∧ T ≠ 17 → iv' T i j = iv T i j)) := by
  have hA := h.1
  obtain ⟨⟨t0, -⟩, -⟩ := id h.2.1
  obtain ⟨g1, g2, g3, g4, g5, g6, g7, n', g8, g9, g11, g12, g13, g14⟩ := h.2.2.2.2.2.2 r hr
  have en : n' = n := nI_inj (by omega) (by omega) (g9.symm.trans hn)
  subst en
  have cHead : ∀ K : Nat → Nat → hpT → Rs Int32, isO (z, hv A iv rv ov) (A.1 0 0) 7 (bnd (F_X7_roomAt (A.1 0 0) (nI r) (z, hv A iv rv ov)) fun a21 h21 => bnd (F_X7_wallAt a21 (nI w) h21) fun a22 h22 => K a21 a22 h22) = K (A.1 12 r) (A.1 16 (4 * r + w)) (z, hv A iv rv ov) := by
    intro K
    rw [isO_hv hA t0 (by rfl) (by decide), roomAt_in h hr, bnd_v, wallAt_in hA g1 g2 g5 g8 g11 hw, bnd_v]
  obtain ⟨D, hh, w1, w2, w3, w4, w5, w7, w8, w9, w11, w12⟩ := id (g13 w hw)
  have hd12 : inR (nI d) 1 12 := rg_to (a := 1) (b := 12) hd1 hd2 (by decide)
  rcases g14 with b1 | ⟨l', q1', n1', b2', o, ph, L, R, kk, q, q1, q3, q5, q6, q7, q9, q10, q11, q12, q13, q14, q15, q16, ⟨ee, q17, q17'⟩, q18⟩
  · rw [b1] at b2
    cases b2
  have el : l' = l := by
    rw [b2'] at b2
    cases b2
    rfl
  subst el
  by_cases h24 : D + d ≤ 24
  · refine Or.inr ?_
    obtain ⟨lq, lk0, lL0, p1, p2, p3, p4, p5, p6, p7, p8, p9, p10⟩ := h.2.2.2.2.2.1 l' hl
    obtain ⟨q', L', R', m', hq', -, hC, hR1⟩ := lot_of h hl
    obtain ⟨a1, a2, a3, a4, a5, a6, a7, a8, a9, a10, a11⟩ := hC
    have eL : L' = L := nI_inj (by omega) (by omega) (a7.symm.trans q10)
    have eq' : q' = q := by
      rw [a4] at q13
      cases q13
      rfl
    subst eq' eL
    have eR : R' = R := nI_inj (by omega) (by omega) (a8.symm.trans q14)
    have em : m' = kk := nI_inj (by omega) (by omega) (a6.symm.trans q5)
    subst eR em
    have hk16 : 4 * r + w < 16 := by omega
    have hS0 : SOK L' R' ph (o + m') (o, ee) := ⟨by show o ≤ o + m'; omega, q6, q11, q15, q16, fun t ht => (q17 t ht).2⟩
    have C1 : CKS A (u3 (u3 iv 14 r 2 (nI (o + m'))) 16 (4 * r + w) 2 (nI (D + d))) rv r L' R' ph (o + m') (o, ee) := ⟨g3, g4, g7, by rw [u3_T (by decide), u3_n (by omega)]; exact q3, by rw [u3_T (by decide), u3_s], by rw [u3_T (by decide), u3_n (by omega)]; exact q9, by rw [u3_T (by decide), u3_n (by omega)]; exact q12, by rw [u3_T (by decide), u3_n (by omega)]; exact q7, fun t ht => by rw [u3_T (by decide), u3_T (by decide)]; exact (q17 t ht).1, hS0⟩
    obtain ⟨T1, T2⟩ := drops6_spec (z := z) (ov := ov) (k := 4 * r + w) (Dk := D + d) (d := D) (h := hh) (fun _ => (0, 0)) hA w2 w3 w4 h24 w12 (by omega) u3_s (by rw [u3_n (by omega), u3_T (by decide)]; exact w9) C1
    rw [Nat.add_sub_cancel_left] at T1 T2
    have le24 : nI D + nI d ≤ 24 := by rw [nI_add]; exact nI_le (b := 24) h24 (by decide)
    have cLen : F_X5_lengthenFrom (A.1 12 r) (A.1 11 l') (A.1 16 (4 * r + w)) (nI d) (z, hv A iv rv ov) = bnd (F_X6_takeDrops (A.1 16 (4 * r + w)) (A.1 14 r) (nI D) (z, hv A (u3 (u3 iv 14 r 2 (nI (o + m'))) 16 (4 * r + w) 2 (nI (D + d))) rv ov)) fun x32 h32 => (if x32 = 0 then rtZ x32 h32 else gfI h32 (A.1 11 l') 1 4 fun x33 => gfR h32 (A.1 12 r) 5 1 fun r34 => nn r34 fun a35 => gfI h32 a35 2 1 fun x36 => pf h32 (A.1 11 l') 1 4 (.int (x33 - (x36 - nI o))) fun h37 => rtZ x32 h37) := by
      unfold F_X5_lengthenFrom
      rw [gfI_hv hA w2 (by rfl) (by decide) (by rfl), w5, gfR_hv hA g1 (by rfl) (by decide) (by rfl), g6, rfv_s, nn_s, gfI_hv hA g3 (by rfl) (by decide) (by rfl), q3, gfR_hv hA g1 (by rfl) (by decide) (by rfl), g6, rfv_s, gfI_hv hA p3 (by rfl) (by decide) (by rfl), q5, nn_s, nI_add o m', pf_hv hA g3 (by rfl) (by decide) (by rfl), nI_add D d, pf_hv hA w2 (by rfl) (by decide) (by rfl), gfR_hv hA g1 (by rfl) (by decide) (by rfl), g6, rfv_s, nn_s, isO_hv hA w2 (by rfl) (by decide)]
    cases hst : drps L' R' ph hh (o + m') d D (o, ee) (fun _ => (0, 0)) with
    | none =>
      obtain ⟨iv2, E1, E2⟩ := T1 hst
      have F2 : ∀ T i j, T ≠ 14 → T ≠ 15 → T ≠ 16 → T ≠ 17 → iv2 T i j = iv T i j := fun T i j x1 x2 x3 x4 => by rw [E2 T i j (fun q => x1 q.1) (fun q => x2 q.1) (fun q => x4 q.1), u3_T x3, u3_T x1]
      have F16 : ∀ i j, i ≠ 4 * r + w ∨ j ≠ 2 → iv2 16 i j = iv 16 i j := fun i j hi => by rw [E2 _ _ _ (by omega) (by omega) (by omega), u3_n (by omega), u3_T (by decide)]
      have F162 : iv2 16 (4 * r + w) 2 = nI (D + d) := by rw [E2 _ _ _ (by omega) (by omega) (by omega), u3_s]
      refine ⟨u3 iv2 0 0 7 (iv 0 0 7 + nI (o * L')), o, D, L', q3, by omega, w5, h24, by rw [u3_T (by decide)]; exact F162, fun i j hi => by rw [u3_T (by decide)]; exact F16 i j hi, a7, q11, Or.inr ⟨?_, ?_, u3_s, fun T i j x => by rw [u3_T x.1]; exact F2 T i j x.2.1 x.2.2.1 x.2.2.2.1 x.2.2.2.2⟩⟩
      · unfold F_X7_lengthen
        refine (cHead _).trans ?_
        rw [req_in hd12, bnd_v, gfR_hv hA g1 (by rfl) (by decide) (by rfl), b2', rfv_s, nlc_s, gfI_hv hA w2 (by rfl) (by decide) (by rfl), w5, if_pos le24, gfR_hv hA g1 (by rfl) (by decide) (by rfl), g6, rfv_s, nn_s, gfI_hv hA g3 (by rfl) (by decide) (by rfl), q3, isO_hv hA g1 (by rfl) (by decide), cLen, E1, bnd_v, if_pos rfl, rtZ_0, bnd_v, if_pos rfl, isO_hv hA t0 (by rfl) (by decide), lose_spec hA t0 p3, bnd_v, isO_hv hA g1 (by rfl) (by decide), bare_spec hA g1, bnd_v, F2 _ _ _ (by decide) (by decide) (by decide) (by decide), F2 _ _ _ (by decide) (by decide) (by decide) (by decide), q10, pk_mul]
      · refine h.bared hr (fun j hj => by rw [u3_n (by omega)]; exact F2 _ _ _ (by decide) (by decide) (by decide) (by decide)) (fun T i j x1 x2 x3 x4 x5 => ?_) (fun w' D0 hw' y1 y2 y3 => ?_)
        · rw [u3_T x1, E2 T i j (fun q => x2 ⟨q.1, q.2.1⟩) x3 (by omega), u3_n (by omega), u3_n (fun q => x2 ⟨q.1, q.2.1⟩)]
        · rw [u3_T (by decide)]
          by_cases hww : w' = w
          · subst hww
            exact ⟨D + d, F162, by omega, h24⟩
          · exact ⟨D0, (F16 _ _ (by omega)).trans y1, y2, y3⟩
    | some sc =>
      obtain ⟨s', c'⟩ := sc
      obtain ⟨iv2, E1, E2, E3, E4, E5⟩ := T2 s' c' hst
      obtain ⟨o1, o2, o3, o4⟩ := drps_ok _ _ _ _ _ _ hS0 hst
      have o5 : nsum ee o + d * hh ≤ nsum s'.2 s'.1 := drps_sum _ _ _ _ _ _ hS0 hst
      have o2' : o ≤ s'.1 := o2
      have s20 : s'.1 ≤ o + m' := o1.1
      have hko : s'.1 - o ≤ m' := by omega
      obtain ⟨c1, c2, c3, c4, c5, c6, c7, c8, c9, c10⟩ := id E3
      have F2 : ∀ T i j, T ≠ 14 → T ≠ 15 → T ≠ 16 → T ≠ 17 → iv2 T i j = iv T i j := fun T i j x1 x2 x3 x4 => by rw [E2 T i j (fun q => x1 q.1) (fun q => x2 q.1) (fun q => x4 q.1), u3_T x3, u3_T x1]
      have F16 : ∀ i j, i ≠ 4 * r + w ∨ j ≠ 2 → iv2 16 i j = iv 16 i j := fun i j hi => by rw [E2 _ _ _ (by omega) (by omega) (by omega), u3_n (by omega), u3_T (by decide)]
      have F162 : iv2 16 (4 * r + w) 2 = nI (D + d) := by rw [E2 _ _ _ (by omega) (by omega) (by omega), u3_s]
      have F17 : ∀ i j, i ≠ 4 * r + w → iv2 17 i j = iv 17 i j := fun i j hi => by rw [E2 _ _ _ (by omega) (by omega) (by omega), u3_T (by decide), u3_T (by decide)]
      have F14 : ∀ T i j, T = 14 ∨ T = 15 → i ≠ r → iv2 T i j = iv T i j := fun T i j hT hi => by rw [E2 _ _ _ (by omega) (by omega) (by omega), u3_T (by omega), u3_n (by omega)]
      have e11 : ∀ i j, i ≠ l' ∨ j ≠ 4 → u3 iv2 11 l' 4 (nI (m' - (s'.1 - o))) 11 i j = iv 11 i j := fun i j hi => by rw [u3_n (by omega)]; exact F2 _ _ _ (by decide) (by decide) (by decide) (by decide)
      have e114 : u3 iv2 11 l' 4 (nI (m' - (s'.1 - o))) 11 l' 4 = nI (m' - (s'.1 - o)) := u3_s
      have ee' : ∀ T i j, T ≠ 11 → u3 iv2 11 l' 4 (nI (m' - (s'.1 - o))) T i j = iv2 T i j := fun T i j x => u3_T x
      have e : ∀ T i j, T ≠ 11 ∧ T ≠ 14 ∧ T ≠ 15 ∧ T ≠ 16 ∧ T ≠ 17 → u3 iv2 11 l' 4 (nI (m' - (s'.1 - o))) T i j = iv T i j := fun T i j x => (ee' T i j x.1).trans (F2 T i j x.2.1 x.2.2.1 x.2.2.2.1 x.2.2.2.2)
      refine ⟨u3 iv2 11 l' 4 (nI (m' - (s'.1 - o))), o, D, L', q3, by omega, w5, h24, (ee' _ _ _ (by decide)).trans F162, fun i j hi => (ee' _ _ _ (by decide)).trans (F16 i j hi), a7, q11, Or.inl ⟨s'.1, o2', by omega, ?_, (ee' _ _ _ (by decide)).trans c4, ?_, e⟩⟩
      · unfold F_X7_lengthen
        refine (cHead _).trans ?_
        rw [req_in hd12, bnd_v, gfR_hv hA g1 (by rfl) (by decide) (by rfl), b2', rfv_s, nlc_s, gfI_hv hA w2 (by rfl) (by decide) (by rfl), w5, if_pos le24, gfR_hv hA g1 (by rfl) (by decide) (by rfl), g6, rfv_s, nn_s, gfI_hv hA g3 (by rfl) (by decide) (by rfl), q3, isO_hv hA g1 (by rfl) (by decide), cLen, E1, bnd_v, if_neg (by decide), gfI_hv hA p3 (by rfl) (by decide) (by rfl), F2 _ _ _ (by decide) (by decide) (by decide) (by decide), q5, gfR_hv hA g1 (by rfl) (by decide) (by rfl), g6, rfv_s, nn_s, gfI_hv hA g3 (by rfl) (by decide) (by rfl), c4, pk_sub o2', pk_sub hko, pf_hv hA p3 (by rfl) (by decide) (by rfl), rtZ_1, bnd_v, if_neg (by decide), gfR_hv hA g1 (by rfl) (by decide) (by rfl), g6, rfv_s, nn_s, gfI_hv hA g3 (by rfl) (by decide) (by rfl), u3_T (by decide), c4, pk_sub o2']
      · generalize u3 iv2 11 l' 4 (nI (m' - (s'.1 - o))) = iv3 at e11 e114 ee' e ⊢
        have hai : area iv3 r n' + D * hh = area iv r n' + (D + d) * hh := by
          have hu := nsum_upd (f := fun w' => vN (iv 16 (4 * r + w') 2) * vN (iv 16 (4 * r + w') 0)) (q := w) (v := (D + d) * hh) n' hw
          have hc : area iv3 r n' = nsum (fun j => if j = w then (D + d) * hh else vN (iv 16 (4 * r + j) 2) * vN (iv 16 (4 * r + j) 0)) n' := by
            refine nsum_congr n' (fun w' hw' => ?_)
            show vN (iv3 16 (4 * r + w') 2) * vN (iv3 16 (4 * r + w') 0) = if w' = w then (D + d) * hh else vN (iv 16 (4 * r + w') 2) * vN (iv 16 (4 * r + w') 0)
            rw [ee' _ _ _ (by decide), ee' _ _ _ (by decide), F16 _ 0 (Or.inr (by decide))]
            by_cases hww : w' = w
            · subst hww
              rw [if_pos rfl, F162, w9, vN_nI (by omega), vN_nI (by omega)]
            · rw [if_neg hww, F16 _ _ (Or.inl (by omega))]
          rw [hc]
          have hu' : nsum (fun j => if j = w then (D + d) * hh else vN (iv 16 (4 * r + j) 2) * vN (iv 16 (4 * r + j) 0)) n' + vN (iv 16 (4 * r + w) 2) * vN (iv 16 (4 * r + w) 0) = area iv r n' + (D + d) * hh := hu
          rw [w5, w9, vN_nI (by omega), vN_nI (by omega)] at hu'
          exact hu'
        have hdd := Nat.add_mul D d hh
        refine h.same (fun j _ => e _ _ _ (by decide)) (fun T i j q => e _ _ _ (by omega)) (fun i hi => (h.2.2.2.1 i hi).col (fun j => e _ _ _ (by decide))) (fun _ _ _ _ => rfl) (fun i hi => ?_) (fun r' hr' => ?_)
        · obtain ⟨lq, lk, lL, u1, u2, u3', u4, u5, u6, u7, u8, u9, u10⟩ := h.2.2.2.2.2.1 i hi
          by_cases hil : i = l'
          · subst hil
            exact ⟨lq, m' - (s'.1 - o), lL, u1, u2, u3', u4, (e11 _ _ (Or.inr (by decide))).trans u5, e114, by omega, (e11 _ _ (Or.inr (by decide))).trans u8, u9, u10⟩
          · exact (h.2.2.2.2.2.1 i hi).to (Nat.le_refl _) (fun _ _ q => q) rfl (fun j => e11 _ _ (Or.inl hil))
        · by_cases hrr : r' = r
          · subst hrr
            refine ⟨g1, g2, g3, g4, g5, g6, g7, n', g8, (e _ _ _ (by decide)).trans g9, g11, g12, fun w' hw' => ?_, Or.inr ⟨l', hl, n1', b2', s'.1, ph, L', R', m' - (s'.1 - o), q', (e _ _ _ (by decide)).trans q1, (ee' _ _ _ (by decide)).trans c4, e114, by omega, (ee' _ _ _ (by decide)).trans c8, (ee' _ _ _ (by decide)).trans c6, (e11 _ _ (Or.inr (by decide))).trans q10, q11, (ee' _ _ _ (by decide)).trans c7, q13, (e _ _ _ (by decide)).trans q14, q15, q16, ⟨s'.2, fun k hk => ⟨(ee' _ _ _ (by decide)).trans (c9 k hk), o1.2.2.2.2.2 k hk⟩, by omega⟩, ?_⟩⟩
            · by_cases hww : w' = w
              · subst hww
                exact ⟨D + d, hh, w1, w2, w3, w4, (ee' _ _ _ (by decide)).trans F162, by omega, h24, (ee' _ _ _ (by decide)).trans ((F16 _ _ (Or.inr (by decide))).trans w9), w11, w12⟩
              · exact (g13 w' hw').to (fun _ _ q => q) rfl (fun j => (ee' _ _ _ (by decide)).trans (F16 _ _ (Or.inl (by omega))))
            · intro w' D' hh' d' hw' hD' hD24 hH' hH60 hd'
              rw [ee' _ _ _ (by decide)] at hD' hH'
              rw [F16 _ 0 (Or.inr (by decide))] at hH'
              by_cases hww : w' = w
              · subst hww
                have hDe : D' = D + d := nI_inj (by omega) (by omega) (hD'.symm.trans F162)
                have hHe : hh' = hh := nI_inj (by omega) (by omega) (hH'.symm.trans w9)
                subst hDe hHe
                by_cases hdd' : d' < D
                · obtain ⟨y1, y2, y3, y4, y5, y6⟩ := q18 w' D hh' d' hw' w5 w8 w9 w12 hdd'
                  refine ⟨y1, y2, by omega, y4, y5, ?_⟩
                  rw [ee' _ _ _ (by decide), E5 d' hdd', u3_T (by decide), u3_T (by decide), y6]
                · obtain ⟨u1, u2, u3'⟩ := o4 d' (by omega) hd'
                  exact ⟨(c' d').1, (c' d').2, u1, u2, u3', (ee' _ _ _ (by decide)).trans (E4 d' (by omega) hd')⟩
              · rw [F16 _ _ (Or.inl (by omega))] at hD'
                obtain ⟨y1, y2, y3, y4, y5, y6⟩ := q18 w' D' hh' d' hw' hD' hD24 hH' hH60 hd'
                exact ⟨y1, y2, by omega, y4, y5, (ee' _ _ _ (by decide)).trans ((F17 _ _ (by omega)).trans y6)⟩
          · refine (h.2.2.2.2.2.2 r' hr').to (Nat.le_refl _) (fun _ _ q => q) (fun _ _ q => q) (fun _ => rfl) rfl (fun _ _ => rfl) (fun _ _ => rfl) (fun _ _ => rfl) (fun j => e _ _ _ (by decide)) (fun j => (ee' _ _ _ (by decide)).trans (F14 _ _ _ (Or.inl rfl) hrr)) (fun j => (ee' _ _ _ (by decide)).trans (F14 _ _ _ (Or.inr rfl) hrr)) (fun w' j hw' => (ee' _ _ _ (by decide)).trans (F16 _ _ (Or.inl (by omega)))) (fun w' j hw' => (ee' _ _ _ (by decide)).trans (F17 _ _ (by omega))) (fun l2 hl2 => e11 _ _ (Or.inr (by decide))) (fun l2 k hl2 hk => ?_) (fun _ _ _ _ => e _ _ _ (by decide))
            by_cases hl2l : l2 = l'
            · subst hl2l
              have hkm : m' ≤ k := by
                by_cases hk31 : k < 2 ^ 31
                · have := nI_inj (a := k) (b := m') hk31 (by omega) (hk.symm.trans q5)
                  omega
                · omega
              exact ⟨m' - (s'.1 - o), by omega, e114⟩
            · exact ⟨k, Nat.le_refl _, (e11 _ _ (Or.inl hl2l)).trans hk⟩
  · refine Or.inl ?_
    unfold F_X7_lengthen
    refine (cHead _).trans ?_
    rw [req_in hd12, bnd_v, gfR_hv hA g1 (by rfl) (by decide) (by rfl), b2', rfv_s, nlc_s, gfI_hv hA w2 (by rfl) (by decide) (by rfl), w5, if_neg (by rw [nI_add]; exact nI_ge (a := 24) (by omega) (by omega))]
end LG
