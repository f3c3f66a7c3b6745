/-! the law's run: lengthen, strip -/
theorem nsum_len {iv iv' : IVt} {r n w D d : Nat} (hw : w < n) (hD : iv 16 (4 * r + w) 2 = nI D) (h24 : D + d ≤ 24) (h' : iv' 16 (4 * r + w) 2 = nI (D + d)) (ho : ∀ i j, i ≠ 4 * r + w ∨ j ≠ 2 → iv' 16 i j = iv 16 i j) : nsum (dN iv' r) n = nsum (dN iv r) n + d := by
  have hu := nsum_upd (f := dN iv r) (q := w) (v := D + d) n hw
  have hc : nsum (dN iv' r) n = nsum (fun j => if j = w then D + d else dN iv r j) n := by
    refine nsum_congr n (fun w' hw' => ?_)
    show vN (iv' 16 (4 * r + w') 2) = if w' = w then D + d else vN (iv 16 (4 * r + w') 2)
    by_cases q : w' = w
    · subst q
      rw [if_pos rfl, h', vN_nI (by omega)]
    · rw [if_neg q, ho _ _ (Or.inl (by omega))]
  have hd : dN iv r w = D := by
    unfold dN
    rw [hD, vN_nI (by omega)]
  rw [hd] at hu
  rw [hc]
  omega
section SL
variable {A : Adr} {iv : IVt} {rv : RVt} {ov : Nat → Int64} {z np nr nl k r a1 a3 a6 L : Nat} {xs : Nat → Int32} {K209 : Nat → Int32 → Nat → Int32 → Int32 → Nat → Int32 → hpT → (Int32 → hpT → Prop) → Prop} {Q : Int32 → hpT → Prop}
theorem room_drops {n : Nat} (hI : INV A iv rv np nr nl) (hr : r < 4) (hn4 : n ≤ 4) (hn : iv 12 r 2 = nI n) : (∀ z, F_X7_room (A.1 0 0) (nI r) 1 (z, hv A iv rv ov) = rtv (nI (nsum (dN iv r) n)) (z, hv A iv rv ov)) ∧ nsum (dN iv r) n ≤ 96 := by
  obtain ⟨g1, g2, g3, g4, g5, g6, g7, n', g8, g9, g11, g12, g13, g14⟩ := hI.2.2.2.2.2.2 r hr
  have en : n' = n := nI_inj (by omega) (by omega) (g9.symm.trans hn)
  subst en
  refine ⟨fun z => ?_, ?_⟩
  · have k1 := k_room1 (z := z) (ov := ov) hI hr hn4 hn
    rw [isum_nI (g := dN iv r) n' (fun k hk => (wrel_of (g13 k hk)).1)] at k1
    exact k1
  · have := nsum_le (e := dN iv r) (L := 24) n' (fun k hk => (wrel_of (g13 k hk)).2.2.2.1)
    omega
theorem b808_ok {n w j : Nat} (hS : LSt a1 a3 a6 A iv rv k nl) (hO : OKA A rv z) (hk : k < 46) (hr : r < 4) (hK : NXT K209 ov a1 a3 a6 k Q) (hj : j < 2 ^ 31) (hn4 : n ≤ 4) (hn : iv 12 r 2 = nI n) (hw : n = 0 ∧ w = 0 ∨ w < n) : P_L_law_b808 L xs K209 a1 a3 6 (nI nl) a6 (nI k) (nI j) (nI r) (nI n) (nI w) (z, hv A iv rv ov) Q := by
  obtain ⟨g1, g2, g3, g4, g5, g6, g7, n', g8, g9, g11, g12, g13, g14⟩ := hS.1.2.2.2.2.2.2 r hr
  have en : n' = n := nI_inj (by omega) (by omega) (g9.symm.trans hn)
  subst en
  have hm := Nat.mod_lt (j / 8) (show 0 < 12 by decide)
  have x12 : (1 : Int32) + irm (nI j / 8) 12 = nI (1 + j / 8 % 12) := i2 (m := 1) (c := 8) (b := 12) hj (by decide) (by decide) (by decide) (by decide)
  have x12' : irm (nI j / 8) 12 = nI (j / 8 % 12) := i3 (c := 8) (b := 12) hj (by decide) (by decide) (by decide) (by decide)
  obtain ⟨d1, d2⟩ := room_drops (ov := ov) hS.1 hr hn4 hn
  obtain ⟨x, hx, hx4⟩ := hS.2.2.2.2.2.2
  unfold P_L_law_b808
  rw [← hS.2.1.1]
  rcases g14 with b1 | ⟨l, hl, n1, b2, oo, ph, L', R, kk, qq, q1, q3, q5, q6, q7, q9, q10, q11, q12, q13, q14, q15, q16, q17, q18⟩
  · refine q_ok hS.1 (k_roomN (k := 2) hS.1 hr b1 (by decide)) ?_
    refine q_ok hS.1 (k_roomN (k := 4) hS.1 hr b1 (by decide)) ?_
    refine q_ok hS.1 (d1 z) ?_
    refine q_lost hS.1 ?_
    refine nz_i (by decide) (nz_i (by decide) ?_)
    rw [x12]
    rcases hw with ⟨rfl, rfl⟩ | hw
    · refine q_th hS.1 hO (k_len_w hS.1 hr hn4 hn (fun ⟨w, q, _⟩ => absurd q (Nat.not_lt_zero w))) (fun _ => hk1) (fun z1 hO1 => ?_)
      rw [if_pos (show nI 0 = 0 from rfl), if_pos rfl, hS.2.1.1]
      unfold P_L_law_b1021
      exact tail_ok hS.up hO1 hk hr hK
    · refine q_th hS.1 hO (k_len_n hS.1 hr hn4 hn hw (by omega) (by omega) b1) (fun _ => hk3 (by decide) (by decide)) (fun z1 hO1 => ?_)
      rw [if_neg (nI_ne0 (by omega) (by omega)), if_neg (by decide), if_pos rfl, hS.2.1.1]
      unfold P_L_law_b1021
      exact tail_ok hS.up hO1 hk hr hK
  · have hwn : w < n' := by
      rcases hw with ⟨q, -⟩ | q
      · omega
      · exact q
    have hl10 : l < 10 := by
      obtain ⟨q', kk, L', p1, p2, -⟩ := hS.1.2.2.2.2.2.1 l hl
      exact p2
    have e2 := k_roomS (z := z) (ov := ov) (k := 2) hS.1 hr b2 (by decide)
    rw [if_pos rfl, q1] at e2
    have e4 := k_roomS (z := z) (ov := ov) (k := 4) hS.1 hr b2 (by decide)
    rw [if_neg (by decide), if_neg (by decide), q3] at e4
    refine q_ok hS.1 e2 ?_
    refine q_ok hS.1 e4 ?_
    refine q_ok hS.1 (d1 z) ?_
    refine q_lost hS.1 ?_
    refine nz_i (by decide) (nz_i (by decide) ?_)
    rw [x12, x12', nI_l (n := l) (by omega), nI_l (n := oo) (by omega), nI_l (n := nsum (dN iv r) n') (by omega), nI_l (n := j / 8 % 12) (by omega), lN_1, lN_add]
    rcases k_len (z := z) (ov := ov) hS.1 hr hn4 hn hwn (show 1 ≤ 1 + j / 8 % 12 by omega) (by omega) hl b2 with e | ⟨iv', o, D, L2, h1, h2, h3, h4, h5, h6, h7, h8, ⟨o', oo1, oo2, e, h14, hI', hF⟩ | ⟨e, hI', h007, hF⟩⟩
    · refine q_th hS.1 hO e (fun _ => hk3 (by decide) (by decide)) (fun z1 hO1 => ?_)
      rw [if_neg (nI_ne0 (by omega) (by omega)), if_pos (l_p0 (by omega)), if_pos rfl, hS.2.1.1]
      unfold P_L_law_b1016 P_L_law_b1021
      exact tail_ok hS.up hO1 hk hr hK
    · have eo : o = oo := nI_inj (by omega) (by omega) (h1.symm.trans q3)
      subst eo
      have hn' : iv' 12 r 2 = nI n' := (hF _ _ _ (by decide)).trans hn
      obtain ⟨d1', d2'⟩ := room_drops (ov := ov) hI' hr hn4 hn'
      have hT := nsum_len (n := n') hwn h3 h4 h5 h6
      have r4 := k_roomS (z := z) (ov := ov) (k := 4) hI' hr b2 (by decide)
      rw [if_neg (by decide), if_neg (by decide), h14] at r4
      have hS' : LSt a1 a3 a6 A iv' rv (k + 1) nl := hS.to hI' (FRK.iv (fun T i j q => hF T i j (by omega)) (fun _ _ _ _ => rfl)) (hS.2.2.2.2.2.1.fr ⟨fun _ => hF _ _ _ (by decide), fun _ => h6 _ _ (Or.inr (by decide))⟩ (fun _ => hF _ _ _ (by decide))) (hS.2.2.2.2.2.2.same (hF _ _ _ (by decide)))
      refine q_ok hS.1 e ?_
      rw [if_neg (nI_ne0 (by omega) (by omega)), if_pos (l_p0 (by omega)), nI_l (n := o' - o) (by omega), if_neg (l_ne3 (by omega))]
      refine q_ok hI' (d1' z) ?_
      refine nz_i (by decide) (nz_i (by decide) ?_)
      rw [nI_l (n := nsum (dN iv' r) n') (by omega), if_pos (congrArg lN (by omega)), if_neg (l_n0 (by omega))]
      refine q_ok hI' r4 ?_
      rw [nI_l (n := o') (by omega), lN_add, if_pos (congrArg lN (by omega))]
      refine q_lost hI' ?_
      rw [if_pos (hF _ _ _ (by decide)), hS.2.1.1]
      unfold P_L_law_b1016 P_L_law_b1021
      exact tail_ok hS' hO hk hr hK
    · have eo : o = oo := nI_inj (by omega) (by omega) (h1.symm.trans q3)
      have eL : L2 = L' := nI_inj (by omega) (by omega) (h7.symm.trans q10)
      subst eo eL
      have hoL : o * L2 ≤ 20 * 200 := Nat.mul_le_mul h2 h8
      rw [hx, nI_add] at h007
      have hn' : iv' 12 r 2 = nI n' := (hF _ _ _ (by decide)).trans hn
      obtain ⟨d1', d2'⟩ := room_drops (ov := ov) hI' hr hn4 hn'
      have hT := nsum_len (n := n') hwn h3 h4 h5 h6
      have r2 := k_roomN (z := z) (ov := ov) (k := 2) hI' hr u3_s (by decide)
      have k3 := k_lotOf (z := z) (ov := ov) (n := 3) hI' hl (by decide)
      rw [if_neg (by decide), if_neg (by decide), hF _ _ _ (by decide), q10] at k3
      have hS' : LSt a1 a3 a6 A iv' (u3 rv 12 r 3 none) (k + 1) nl := hS.to hI' (FRK.iv (fun T i j q => hF T i j (by omega)) (fun T i j q => u3_T q)) (hS.2.2.2.2.2.1.fr ⟨fun _ => hF _ _ _ (by decide), fun _ => h6 _ _ (Or.inr (by decide))⟩ (fun _ => hF _ _ _ (by decide))) ⟨x + o * L2, h007, by omega⟩
      refine q_ok hS.1 e ?_
      rw [if_neg (nI_ne0 (by omega) (by omega)), if_pos (l_p0 (by omega)), if_neg (by decide)]
      refine q_ok hI' (d1' z) ?_
      refine nz_i (by decide) (nz_i (by decide) ?_)
      rw [nI_l (n := nsum (dN iv' r) n') (by omega), if_pos (congrArg lN (by omega)), if_pos (by decide)]
      refine q_ok hI' r2 ?_
      rw [if_pos (by decide)]
      refine q_lost hI' ?_
      rw [lN_i l]
      refine q_ok hI' k3 ?_
      rw [h007, hx, nI_l (n := x + o * L2) (by omega), nI_l (n := x) (by omega), nI_l (n := L2) (by omega), lN_mul, lN_add, if_pos rfl, hS.2.1.1]
      unfold P_L_law_b1016 P_L_law_b1021
      exact tail_ok hS' hO.nul hk hr hK
theorem st_strip (hS : LSt a1 a3 a6 A iv rv k nl) (hO : OKA A rv z) (hk : k < 46) (hr : r < 4) (hK : NXT K209 ov a1 a3 a6 k Q) : P_L_room a1 (nI r) 2 (z, hv A iv rv ov) fun v51 h51 => P_L_room a1 (nI r) 4 h51 fun v52 h52 => isP h52 a1 7 <| cP (F_X7_lost a1 h52) fun v53 h53 => P_L_strip a1 (nI r) h53 fun v54 h54 => (if 0 ≤ v51 then P_L_law_b1077 L xs K209 a1 a3 6 (nI nl) a6 (nI k) (nI r) v51 v52 v53 v52 v54 h54 Q else P_L_law_b1077 L xs K209 a1 a3 6 (nI nl) a6 (nI k) (nI r) v51 v52 v53 (-9000000000000000003) v54 h54 Q) := by
  obtain ⟨g1, g2, g3, g4, g5, g6, g7, n, g8, g9, g11, g12, g13, g14⟩ := hS.1.2.2.2.2.2.2 r hr
  obtain ⟨x, hx, hx4⟩ := hS.2.2.2.2.2.2
  rw [← hS.2.1.1]
  rcases g14 with b1 | ⟨l, hl, n1, b2, oo, ph, L', R, kk, qq, q1, q3, q5, q6, q7, q9, q10, q11, q12, q13, q14, q15, q16, q17, q18⟩
  · refine q_ok hS.1 (k_roomN (k := 2) hS.1 hr b1 (by decide)) ?_
    refine q_ok hS.1 (k_roomN (k := 4) hS.1 hr b1 (by decide)) ?_
    refine q_lost hS.1 ?_
    refine q_th hS.1 hO (k_strip_n hS.1 hr b1) (fun _ => hk2 (by decide)) (fun z1 hO1 => ?_)
    rw [if_neg (by decide)]
    unfold P_L_law_b1077
    rw [if_pos rfl]
    refine q_lost hS.1 ?_
    rw [if_neg (by decide)]
    unfold P_L_law_b1111
    rw [if_pos (Int64.add_zero _).symm, hS.2.1.1]
    unfold P_L_law_b1121
    exact tail_ok hS.up hO1 hk hr hK
  · have hl10 : l < 10 := by
      obtain ⟨q', kk, L', p1, p2, -⟩ := hS.1.2.2.2.2.2.1 l hl
      exact p2
    have e2 := k_roomS (z := z) (ov := ov) (k := 2) hS.1 hr b2 (by decide)
    rw [if_pos rfl, q1] at e2
    have e4 := k_roomS (z := z) (ov := ov) (k := 4) hS.1 hr b2 (by decide)
    rw [if_neg (by decide), if_neg (by decide), q3] at e4
    have hoL : oo * L' ≤ 20 * 200 := Nat.mul_le_mul (by omega) q11
    obtain ⟨e, hI'⟩ := k_strip (z := z) (ov := ov) hS.1 hr hl b2
    rw [q3, q10, hx, pk_mul, nI_add] at e hI'
    have k3 := k_lotOf (z := z) (ov := ov) (n := 3) hI' hl (by decide)
    rw [if_neg (by decide), if_neg (by decide), u3_T (by decide), q10] at k3
    have hS' : LSt a1 a3 a6 A (u3 iv 0 0 7 (nI (x + oo * L'))) (u3 rv 12 r 3 none) (k + 1) nl := hS.to hI' (FRK.iv (fun T i j q => u3_T (by omega)) (fun T i j q => u3_T q)) (hS.2.2.2.2.2.1.fr ⟨fun _ => u3_T (by decide), fun _ => u3_T (by decide)⟩ (fun _ => u3_T (by decide))) ⟨x + oo * L', u3_s, by omega⟩
    refine q_ok hS.1 e2 ?_
    refine q_ok hS.1 e4 ?_
    refine q_lost hS.1 ?_
    refine q_ok hS.1 e ?_
    rw [nI_l (n := l) (by omega), nI_l (n := oo) (by omega), if_pos (l_p0 (by omega))]
    unfold P_L_law_b1077
    rw [if_pos rfl]
    refine q_lost hI' ?_
    rw [if_pos (l_p0 (by omega)), lN_i l]
    refine q_ok hI' k3 ?_
    unfold P_L_law_b1111
    rw [u3_s, hx, nI_l (n := x + oo * L') (by omega), nI_l (n := x) (by omega), nI_l (n := L') (by omega), lN_mul, lN_add, if_pos rfl, hS.2.1.1]
    unfold P_L_law_b1121
    exact tail_ok hS' hO.nul hk hr hK
end SL
