/-! the law's run: its state, the tail of every step, lot, wall, hang -/
def SDS (A : Adr) (iv : IVt) (rv : RVt) (k : Nat) : Prop := ∀ p, p < k → ∃ w h s, PAT A iv rv p w h s ∧ iv 18 0 (2 * p) = nI w ∧ iv 18 0 (2 * p + 1) = nI h
def LOST (iv : IVt) (k : Nat) : Prop := ∃ x, iv 0 0 7 = nI x ∧ x ≤ 4000 * k
def LSt (a1 a3 a6 : Nat) (A : Adr) (iv : IVt) (rv : RVt) (k nl : Nat) : Prop := INV A iv rv 3 6 nl ∧ (A.1 0 0 = a1 ∧ A.1 18 0 = a3 ∧ A.1 19 0 = a6) ∧ (A.2.2 18 0 = true ∧ A.2.2 19 0 = true) ∧ SDS A iv rv 3 ∧ RRl iv 6 ∧ HT iv ∧ LOST iv k
theorem SDS.to {A A' : Adr} {iv iv' : IVt} {rv rv' : RVt} {k : Nat} (h : SDS A iv rv k) (hF : FRK A iv rv A' iv' rv') (h18 : A.2.2 18 0 = true) : SDS A' iv' rv' k := by
  intro p hp
  obtain ⟨w, hh, s, hP, e1, e2⟩ := h p hp
  have l5 := hP.1
  have l6 := hP.2.1.1
  exact ⟨w, hh, s, hP.to (fun T i q => (hF.1 T i q).1) (hF.2.2 5 p 0 (by decide) l5) (hF.2.2 6 p 2 (by decide) l6) (fun j => hF.2.1 5 p j (by decide) l5) (fun j => hF.2.1 6 p j (by decide) l6), (hF.2.1 18 0 _ (by decide) h18).trans e1, (hF.2.1 18 0 _ (by decide) h18).trans e2⟩
theorem RRl.to {A A' : Adr} {iv iv' : IVt} {rv rv' : RVt} {k np nr nl : Nat} (h : RRl iv k) (hI : INV A iv rv np nr nl) (hk : k ≤ nr) (h3 : 3 ≤ np) (hF : FRK A iv rv A' iv' rv') : RRl iv' k := by
  intro q hq
  obtain ⟨c, r, rd, g2, g5, g6, g7, -⟩ := hI.2.2.2.2.1 q (by omega)
  have hm := Nat.mod_lt q (show 0 < 3 by decide)
  obtain ⟨w, hh, s, hP, -⟩ := hI.2.2.2.1 (q % 3) (by omega)
  rw [hF.2.1 9 q 1 (by decide) g7.1, hF.2.1 5 (q % 3) 3 (by decide) hP.1]
  exact h q hq
theorem HT.fr {iv iv' : IVt} (h : HT iv) (hW : FRW iv iv') (e19 : ∀ j, iv' 19 0 j = iv 19 0 j) : HT iv' := by
  intro r n w hr hn hn4 hw
  rw [e19, hW.2]
  exact h r n w hr ((hW.1 r).symm.trans hn) hn4 hw
theorem LOST.same {iv iv' : IVt} {k : Nat} (h : LOST iv k) (e : iv' 0 0 7 = iv 0 0 7) : LOST iv' (k + 1) := by
  obtain ⟨x, h1, h2⟩ := h
  exact ⟨x, e.trans h1, by omega⟩
theorem i1 {x m b : Nat} (hx : x < 2 ^ 31) (h0 : 0 < b) (hb : b < 2 ^ 31) : nI m + irm (nI x) (nI b) = nI (m + x % b) := by rw [irm_n hx h0 hb, nI_add]
theorem i3 {x c b : Nat} (hx : x < 2 ^ 31) (hc0 : 0 < c) (hc : c < 2 ^ 31) (h0 : 0 < b) (hb : b < 2 ^ 31) : irm (nI x / nI c) (nI b) = nI (x / c % b) := by
  have := Nat.div_le_self x c
  rw [pk_div hx hc0 hc, irm_n (by omega) h0 hb]
theorem i2 {x c m b : Nat} (hx : x < 2 ^ 31) (hc0 : 0 < c) (hc : c < 2 ^ 31) (h0 : 0 < b) (hb : b < 2 ^ 31) : nI m + irm (nI x / nI c) (nI b) = nI (m + x / c % b) := by rw [i3 hx hc0 hc h0 hb, nI_add]
theorem l_ne3 {c : Nat} (h : c < 2 ^ 31) : ¬ lN c = -9000000000000000003 := fun q => l_n0 h (by rw [q]; decide)
def NXT (K209 : Nat → Int32 → Nat → Int32 → Int32 → Nat → Int32 → hpT → (Int32 → hpT → Prop) → Prop) (ov : Nat → Int64) (a1 a3 a6 k : Nat) (Q : Int32 → hpT → Prop) : Prop := ∀ A iv rv z nl, LSt a1 a3 a6 A iv rv (k + 1) nl → OKA A rv z → K209 a1 1 a3 6 (nI nl) a6 (nI (k + 1)) (z, hv A iv rv ov) Q
section ST
variable {A A' : Adr} {iv iv' : IVt} {rv rv' : RVt} {ov : Nat → Int64} {z nl nl' k r a1 a3 a6 L : Nat} {xs : Nat → Int32} {K209 : Nat → Int32 → Nat → Int32 → Int32 → Nat → Int32 → hpT → (Int32 → hpT → Prop) → Prop} {Q : Int32 → hpT → Prop}
theorem LSt.to (h : LSt a1 a3 a6 A iv rv k nl) (hI : INV A' iv' rv' 3 6 nl') (hF : FRK A iv rv A' iv' rv') (hT : HT iv') (hX : LOST iv' (k + 1)) : LSt a1 a3 a6 A' iv' rv' (k + 1) nl' := by
  obtain ⟨g1, ⟨g2, g3, g4⟩, ⟨g5, g6⟩, g7, g8, g9, g10⟩ := h
  obtain ⟨⟨t0, -⟩, -⟩ := id g1.2.1
  exact ⟨hI, ⟨(hF.1 0 0 t0).2.trans g2, (hF.1 18 0 g5).2.trans g3, (hF.1 19 0 g6).2.trans g4⟩, ⟨(hF.1 18 0 g5).1, (hF.1 19 0 g6).1⟩, g7.to hF g5, g8.to g1 (Nat.le_refl _) (Nat.le_refl _) hF, hT, hX⟩
theorem LSt.up (h : LSt a1 a3 a6 A iv rv k nl) : LSt a1 a3 a6 A iv rv (k + 1) nl := by
  obtain ⟨g1, g2, g5, g7, g8, g9, g10⟩ := h
  exact ⟨g1, g2, g5, g7, g8, g9, g10.same rfl⟩
theorem t1185 (hS : LSt a1 a3 a6 A iv rv (k + 1) nl) (hO : OKA A rv z) (hk : k < 46) (hK : NXT K209 ov a1 a3 a6 k Q) : P_L_law_b1185 L xs K209 a1 1 a3 6 (nI nl) a6 (nI k) (z, hv A iv rv ov) Q := by
  unfold P_L_law_b1185
  refine nz_i (by decide) ?_
  rw [show irm (nI k) 23 = nI (k % 23) from irm_n (b := 23) (by omega) (by decide) (by decide)]
  by_cases q : k % 23 = 22
  · rw [q, if_pos (show nI 22 = 22 from rfl), if_neg (by decide), ← hS.2.1.1]
    refine refuses_ok hS.1 hO (fun z1 hO1 => ?_)
    rw [if_neg (by decide), hS.2.1.1]
    unfold P_L_law_b1211 P_L_law_b1212
    rw [nI_1]
    exact hK _ _ _ _ _ hS hO1
  · have hm := Nat.mod_lt k (show 0 < 23 by decide)
    rw [if_neg (show ¬ nI (k % 23) = 22 from fun w => q (nI_inj (b := 22) (by omega) (by decide) w))]
    unfold P_L_law_b1212
    rw [nI_1]
    exact hK _ _ _ _ _ hS hO
theorem tail_ok (hS : LSt a1 a3 a6 A iv rv (k + 1) nl) (hO : OKA A rv z) (hk : k < 46) (hr : r < 4) (hK : NXT K209 ov a1 a3 a6 k Q) : P_L_law_b1140 L xs K209 a1 1 a3 6 (nI nl) a6 (nI k) (nI r) (z, hv A iv rv ov) Q := by
  obtain ⟨g1, ⟨g2, g3, g4⟩, ⟨g5, g6⟩, g7, g8, g9, g10⟩ := id hS
  unfold P_L_law_b1140
  refine nz_i (by decide) ?_
  rw [show irm (nI k) 6 = nI (k % 6) from irm_n (b := 6) (by omega) (by decide) (by decide)]
  by_cases q : k % 6 = 5
  · rw [q, if_pos (show nI 5 = 5 from rfl), if_neg (by decide), ← g2, ← g4]
    refine room_holds g1 hO hr g8 g9 g6 (fun z1 hO1 => ?_)
    rw [if_neg (by decide)]
    refine nz_i (by decide) ?_
    rw [nI_1, show irm (nI (r + 1)) 4 = nI ((r + 1) % 4) from irm_n (b := 4) (by omega) (by decide) (by decide)]
    refine room_holds g1 hO1 (Nat.mod_lt _ (by decide)) g8 g9 g6 (fun z2 hO2 => ?_)
    rw [if_neg (by decide), g2, g4]
    unfold P_L_law_b1184
    exact t1185 hS hO2 hk hK
  · have hm := Nat.mod_lt k (show 0 < 6 by decide)
    rw [if_neg (show ¬ nI (k % 6) = 5 from fun w => q (nI_inj (b := 5) (by omega) (by decide) w))]
    exact t1185 hS hO hk hK
theorem st_lot {q d kk Ln : Nat} (hS : LSt a1 a3 a6 A iv rv k nl) (hO : OKA A rv z) (hk : k < 46) (hr : r < 4) (hK : NXT K209 ov a1 a3 a6 k Q) (hq : q < 6) (hd : d ≤ 9) (hk1 : 1 ≤ kk) (hk2 : kk ≤ 20) (hL1 : 1 ≤ Ln) (hL2 : Ln ≤ 200) : P_L_lot a1 (nI q) (nI d) (nI kk) (nI Ln) (z, hv A iv rv ov) fun v61 h61 => (if nI nl = 10 then P_L_law_b453 L xs K209 a1 a3 6 (nI nl) a6 (nI k) (nI r) (-9000000000000000003) v61 h61 Q else P_L_law_b453 L xs K209 a1 a3 6 (nI nl) a6 (nI k) (nI r) (nI nl).toInt64 v61 h61 Q) := by
  have n10 : nl ≤ 10 := hS.1.2.2.1.2.2.2.2.2
  by_cases hn : nl < 10
  · obtain ⟨A', iv', rv', e, hO', hI', hF, hW, e7, e12⟩ := k_lot (ov := ov) hO hS.1 hq hd hk1 hk2 hL1 hL2 hn
    have h19 := hS.2.2.1.2
    have hS' : LSt a1 a3 a6 A' iv' rv' (k + 1) (nl + 1) := hS.to hI' hF (hS.2.2.2.2.2.1.fr hW (fun j => hF.2.1 19 0 j (by decide) h19)) (hS.2.2.2.2.2.2.same e7)
    have ne : ¬ nI nl = 10 := fun w => by have := nI_inj (b := 10) (by omega) (by decide) w; omega
    rw [← hS.2.1.1]
    refine q_ok hS.1 e ?_
    rw [if_neg ne, hS.2.1.1]
    unfold P_L_law_b453
    rw [if_pos rfl]
    unfold P_L_law_b462
    rw [if_neg ne]
    unfold P_L_law_b477
    rw [if_neg (by decide), nI_1, nI_pred]
    obtain ⟨x, ex, x1, x2⟩ := k_lotOf4 (z := z + 1) (ov := ov) hI' (show nl < nl + 1 by omega)
    rw [← hS'.2.1.1]
    refine q_ok hI' ex ?_
    rw [nI_l (by omega), if_neg (l_n1 x1 (by omega)), hS'.2.1.1]
    unfold P_L_law_b503
    exact tail_ok hS' hO' hk hr hK
  · have hn10 : nl = 10 := by omega
    subst hn10
    rw [← hS.2.1.1]
    refine q_th hS.1 hO (k_lot_f hS.1 hq hd hk1 hk2 hL1 hL2 rfl) (fun _ => hk3 (by decide) (by decide)) (fun z1 hO1 => ?_)
    rw [if_pos (show nI 10 = 10 from rfl)]
    unfold P_L_law_b453
    rw [if_pos rfl]
    unfold P_L_law_b462
    rw [if_pos (show nI 10 = 10 from rfl)]
    unfold P_L_law_b477
    rw [if_neg (by decide), Int32.add_zero, show nI 10 - 1 = nI 9 from nI_pred 9]
    obtain ⟨x, ex, x1, x2⟩ := k_lotOf4 (z := z1) (ov := ov) hS.1 (show 9 < 10 by decide)
    refine q_ok hS.1 ex ?_
    rw [nI_l (by omega), if_neg (l_n1 x1 (by omega)), hS.2.1.1]
    unfold P_L_law_b503
    exact tail_ok hS.up hO1 hk hr hK
theorem st_wall {j : Nat} (hS : LSt a1 a3 a6 A iv rv k nl) (hO : OKA A rv z) (hk : k < 46) (hr : r < 4) (hK : NXT K209 ov a1 a3 a6 k Q) (hj : j < 2 ^ 31) : P_L_room a1 (nI r) 0 (z, hv A iv rv ov) fun v59 h59 => P_L_room a1 (nI r) 2 h59 fun v60 h60 => (if 0 ≤ v60 then P_L_law_b541 L xs K209 a1 a3 6 (nI nl) a6 (nI k) (nI j) (nI r) v59.toInt32 0 h60 Q else P_L_law_b541 L xs K209 a1 a3 6 (nI nl) a6 (nI k) (nI j) (nI r) v59.toInt32 1 h60 Q) := by
  obtain ⟨g1, g2, g3, g4, g5, g6, g7, n, g8, g9, g11, g12, g13, g14⟩ := hS.1.2.2.2.2.2.2 r hr
  have e0 := k_room0 (z := z) (ov := ov) hS.1 hr
  rw [g9] at e0
  have hm6 := Nat.mod_lt j (show 0 < 6 by decide)
  have hm30 := Nat.mod_lt (j / 16) (show 0 < 30 by decide)
  have x6 : (1 : Int32) + irm (nI j) 6 = nI (1 + j % 6) := i1 (m := 1) (b := 6) hj (by decide) (by decide)
  have x30 : (1 : Int32) + irm (nI j / 16) 30 = nI (1 + j / 16 % 30) := i2 (m := 1) (c := 16) (b := 30) hj (by decide) (by decide) (by decide) (by decide)
  have ful : ¬ (rv 12 r 3 = none ∧ n < 4) → ∀ z, F_X7_wall (A.1 0 0) (nI r) (nI (1 + j % 6)) (nI (1 + j / 16 % 30)) (z, hv A iv rv ov) = tht IS (z, hv A iv rv ov) := fun hf z => k_wall_f hS.1 hr g9 g8 hf (by omega) (by omega) (by omega) (by omega)
  rw [← hS.2.1.1]
  refine q_ok hS.1 e0 ?_
  rcases g14 with b1 | ⟨l, hl, n1, b2, oo, ph, L', R, kk, qq, q1, -⟩
  · refine q_ok hS.1 (k_roomN (k := 2) hS.1 hr b1 (by decide)) ?_
    rw [if_neg (by decide), tl]
    unfold P_L_law_b541
    refine nz_i (by decide) (nz_i (by decide) (nz_i (by decide) ?_))
    rw [x6, x30]
    by_cases hn : n < 4
    · obtain ⟨A', iv', rv', e, hO', hI', hF, e122, e12, e160, e16, e7⟩ := k_wall (ov := ov) hO hS.1 hr g9 hn b1 (show 1 ≤ 1 + j % 6 by omega) (by omega) (show 1 ≤ 1 + j / 16 % 30 by omega) (by omega)
      have h19 := hS.2.2.1.2
      have h19' := (hF.1 19 0 h19).1
      have a19 := (hF.1 19 0 h19).2
      have hF2 : FRK A iv rv A' iv' rv' := hF
      have hI2 : INV A' (u3 iv' 19 0 (4 * r + n) (nI (1 + j / 16 % 30))) rv' 3 6 nl := hI'.scr (Or.inr rfl)
      have hHT : HT (u3 iv' 19 0 (4 * r + n) (nI (1 + j / 16 % 30))) := by
        intro r' n' w hr' hn' hn4' hw'
        rw [u3_T (by decide)] at hn'
        rw [u3_T (a := 16) (T := 19) (by decide)]
        by_cases hrr : r' = r
        · subst hrr
          have en : n' = n + 1 := nI_inj (by omega) (by omega) (hn'.symm.trans e122)
          by_cases hww : w = n
          · subst hww
            rw [u3_s, e160]
          · rw [u3_n (by omega), e16 _ (by omega), hF.2.1 19 0 _ (by decide) h19]
            exact hS.2.2.2.2.2.1 r' n w hr' g9 g8 (by omega)
        · rw [u3_n (by omega), e16 _ (by omega), hF.2.1 19 0 _ (by decide) h19]
          exact hS.2.2.2.2.2.1 r' n' w hr' ((e12 r' hrr).symm.trans hn') hn4' hw'
      obtain ⟨f1, ⟨f2, f3, f4⟩, ⟨f5, f6⟩, f7, f8, f9, f10⟩ := id hS
      obtain ⟨⟨t0, -⟩, -⟩ := id f1.2.1
      have s7 := f7.to hF f5
      have hS' : LSt a1 a3 a6 A' (u3 iv' 19 0 (4 * r + n) (nI (1 + j / 16 % 30))) rv' (k + 1) nl := ⟨hI2, ⟨(hF.1 0 0 t0).2.trans f2, (hF.1 18 0 f5).2.trans f3, a19.trans f4⟩, ⟨(hF.1 18 0 f5).1, h19'⟩, fun p hp => by
        obtain ⟨w, hh, s, hP, p1, p2⟩ := s7 p hp
        exact ⟨w, hh, s, hP.to (fun _ _ q => q) rfl rfl (fun _ => u3_T (by decide)) (fun _ => u3_T (by decide)), (u3_T (by decide)).trans p1, (u3_T (by decide)).trans p2⟩, fun q hq => by
        rw [u3_T (by decide), u3_T (by decide)]
        exact (f8.to f1 (Nat.le_refl _) (Nat.le_refl _) hF) q hq, hHT, f10.same ((u3_T (by decide)).trans e7)⟩
      have x4 : (4 : Int32) * nI r + nI n = nI (4 * r + n) := by rw [show (4 : Int32) = nI 4 from rfl, pk_mul, nI_add]
      refine q_ok hS.1 e ?_
      rw [if_neg (by decide), if_neg (show ¬ (4 : Int32) ≤ nI n from nI_ge (b := 4) hn (by decide))]
      unfold P_L_law_b594
      rw [if_pos rfl]
      unfold P_L_law_b603
      rw [nI_l (by omega), if_neg (l_n0 (by omega)), x4, hS.2.1.1, ← hS'.2.1.2.2]
      refine q_ast hI'.1 h19' (by rfl) (show 4 * r + n < 16 by omega) ?_
      rw [hS'.2.1.2.2]
      unfold P_L_law_b623
      exact tail_ok hS' hO' hk hr hK
    · refine q_th hS.1 hO (ful (fun w => hn w.2) z) (fun _ => hk3 (by decide) (by decide)) (fun z1 hO1 => ?_)
      rw [if_neg (by decide), if_pos (show (4 : Int32) ≤ nI n from nI_le (a := 4) (by omega) (by omega))]
      unfold P_L_law_b591 P_L_law_b594
      rw [if_pos rfl]
      unfold P_L_law_b603
      rw [if_pos (by decide), hS.2.1.1]
      unfold P_L_law_b623
      exact tail_ok hS.up hO1 hk hr hK
  · have hl10 : l < 10 := by
      obtain ⟨q', kk, L', p1, p2, -⟩ := hS.1.2.2.2.2.2.1 l hl
      exact p2
    have e2 := k_roomS (z := z) (ov := ov) (k := 2) hS.1 hr b2 (by decide)
    rw [if_pos rfl, q1] at e2
    refine q_ok hS.1 e2 ?_
    rw [nI_l (n := l) (by omega), if_pos (l_p0 (by omega)), tl]
    unfold P_L_law_b541
    refine nz_i (by decide) (nz_i (by decide) (nz_i (by decide) ?_))
    rw [x6, x30]
    refine q_th hS.1 hO (ful (fun w => by rw [b2] at w; cases w.1) z) (fun _ => hk3 (by decide) (by decide)) (fun z1 hO1 => ?_)
    rw [if_pos rfl]
    unfold P_L_law_b591 P_L_law_b594
    rw [if_pos rfl]
    unfold P_L_law_b603
    rw [if_pos (by decide), hS.2.1.1]
    unfold P_L_law_b623
    exact tail_ok hS.up hO1 hk hr hK
theorem hang_a {l : Nat} {x : Int32} (hS : LSt a1 a3 a6 A iv rv k nl) (hO : OKA A rv z) (hk : k < 46) (hr : r < 4) (hl : l < nl) (hK : NXT K209 ov a1 a3 a6 k Q) (e : F_X7_hang (A.1 0 0) (nI r) (nI l) (z, hv A iv rv ov) = tht IS (z, hv A iv' rv ov)) (hI' : INV A iv' rv 3 6 nl) (hC : CFR r iv iv') : P_L_law_b662 L xs K209 a1 a3 6 (nI nl) a6 (nI k) (nI r) (nI l) x (z, hv A iv rv ov) Q := by
  have k2 := k_lotOf (z := z) (ov := ov) (n := 2) hS.1 hl (by decide)
  rw [if_neg (by decide), if_pos rfl] at k2
  have hS' : LSt a1 a3 a6 A iv' rv (k + 1) nl := hS.to hI' (FRK.iv (fun T i j q => hC.at (by omega)) (fun _ _ _ _ => rfl)) (hS.2.2.2.2.2.1.fr ⟨fun _ => hC.at (by decide), fun _ => hC.at (by decide)⟩ (fun _ => hC.at (by decide))) (hS.2.2.2.2.2.2.same (hC.at (by decide)))
  unfold P_L_law_b662
  rw [← hS.2.1.1]
  refine q_ok hS.1 k2 ?_
  refine q_th hS.1 hO e (fun _ => hk2 (by decide)) (fun z1 hO1 => ?_)
  rw [if_pos rfl]
  have k2' := k_lotOf (z := z1) (ov := ov) (n := 2) hI' hl (by decide)
  rw [if_neg (by decide), if_pos rfl, hC.at (by decide)] at k2'
  refine q_ok hI' k2' ?_
  rw [if_pos rfl, hS.2.1.1]
  unfold P_L_law_b773
  exact tail_ok hS' hO1 hk hr hK
theorem st_hang {l : Nat} (hS : LSt a1 a3 a6 A iv rv k nl) (hO : OKA A rv z) (hk : k < 46) (hr : r < 4) (hl : l < nl) (hK : NXT K209 ov a1 a3 a6 k Q) : P_L_room a1 (nI r) 2 (z, hv A iv rv ov) fun v58 h58 => (if 0 ≤ v58 then P_L_law_b662 L xs K209 a1 a3 6 (nI nl) a6 (nI k) (nI r) (nI l) 0 h58 Q else P_L_law_b662 L xs K209 a1 a3 6 (nI nl) a6 (nI k) (nI r) (nI l) 1 h58 Q) := by
  have hl10 : l < 10 := by
    obtain ⟨q', kk, L', p1, p2, -⟩ := hS.1.2.2.2.2.2.1 l hl
    exact p2
  rcases k_hang (z := z) (ov := ov) hS.1 hr hl with ⟨iv', e, hI', hC⟩ | ⟨iv', o, m, b1, e, l11, o1, om, m20, i4, i4', i14, i12, hI', hF, h12⟩
  · rw [← hS.2.1.1]
    rcases (hS.1.2.2.2.2.2.2 r hr) with ⟨g1, g2, g3, g4, g5, g6, g7, n, g8, g9, g11, g12, g13, b1 | ⟨l', hl', n1, b2, oo, ph, L', R, kk, qq, q1, -⟩⟩
    · refine q_ok hS.1 (k_roomN (k := 2) hS.1 hr b1 (by decide)) ?_
      rw [if_neg (by decide), hS.2.1.1]
      exact hang_a hS hO hk hr hl hK e hI' hC
    · have hl10' : l' < 10 := by
        obtain ⟨q', kk, L', p1, p2, -⟩ := hS.1.2.2.2.2.2.1 l' hl'
        exact p2
      have e2 := k_roomS (z := z) (ov := ov) (k := 2) hS.1 hr b2 (by decide)
      rw [if_pos rfl, q1] at e2
      refine q_ok hS.1 e2 ?_
      rw [nI_l (n := l') (by omega), if_pos (l_p0 (by omega)), hS.2.1.1]
      exact hang_a hS hO hk hr hl hK e hI' hC
  · have k2 := k_lotOf (z := z) (ov := ov) (n := 2) hS.1 hl (by decide)
    rw [if_neg (by decide), if_pos rfl, i4] at k2
    have k2' := k_lotOf (z := z) (ov := ov) (n := 2) hI' hl (by decide)
    rw [if_neg (by decide), if_pos rfl, i4'] at k2'
    have r4 := k_roomS (z := z) (ov := ov) (k := 4) (l := l) hI' hr u3_s (by decide)
    rw [if_neg (by decide), if_neg (by decide), i14] at r4
    have r2 := k_roomS (z := z) (ov := ov) (k := 2) (l := l) hI' hr u3_s (by decide)
    rw [if_pos rfl, i12] at r2
    have hS' : LSt a1 a3 a6 A iv' (u3 rv 12 r 3 (some (11, l))) (k + 1) nl := hS.to hI' (FRK.iv (fun T i j q => hF T i j (by omega)) (fun T i j q => u3_T q)) (hS.2.2.2.2.2.1.fr ⟨h12, fun _ => hF _ _ _ (by decide)⟩ (fun _ => hF _ _ _ (by decide))) (hS.2.2.2.2.2.2.same (hF _ _ _ (by decide)))
    rw [← hS.2.1.1]
    refine q_ok hS.1 (k_roomN (k := 2) hS.1 hr b1 (by decide)) ?_
    rw [if_neg (by decide)]
    unfold P_L_law_b662
    refine q_ok hS.1 k2 ?_
    refine q_ok hS.1 e ?_
    rw [nI_l (n := o) (by omega), nI_l (n := m) (by omega), if_neg (l_ne3 (by omega)), if_neg (by decide), if_neg (l_n1 o1 (by omega))]
    refine q_ok hI' k2' ?_
    rw [nI_l (by omega), lN_sub om, if_pos rfl]
    refine q_ok hI' r4 ?_
    rw [nI_l (by omega), if_pos rfl]
    refine q_ok hI' r2 ?_
    rw [if_pos rfl, hS.2.1.1]
    unfold P_L_law_b773
    exact tail_ok hS' (hO.ref l11) hk hr hK
end ST
