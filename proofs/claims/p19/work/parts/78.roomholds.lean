/-! the law's roomHolds -/
theorem nsum_le {e : Nat → Nat} {L : Nat} : ∀ o, (∀ k, k < o → e k ≤ L) → nsum e o ≤ o * L
  | 0, _ => Nat.zero_le _
  | o + 1, h => by
    have i := nsum_le o (fun k hk => h k (by omega))
    have j := h o (by omega)
    rw [Nat.succ_mul]
    show nsum e o + e o ≤ o * L + L
    omega
def HT (iv : IVt) : Prop := ∀ r n w, r < 4 → iv 12 r 2 = nI n → n ≤ 4 → w < n → iv 19 0 (4 * r + w) = iv 16 (4 * r + w) 0
def RRl (iv : IVt) (k : Nat) : Prop := ∀ q, q < k → iv 9 q 1 = iv 5 (q % 3) 3
section RH
variable {A : Adr} {iv : IVt} {rv : RVt} {ov : Nat → Int64} {nl r n w R L ph o : Nat} {Q : Int32 → hpT → Prop} {K176 : Nat → Int32 → Nat → Int32 → Int64 → Int64 → Int64 → Int64 → Int64 → Int32 → Int32 → Int32 → hpT → (Int32 → hpT → Prop) → Prop}
theorem rh306 {D d z : Nat} {y : Int64} {x : Int32} (hI : INV A iv rv 3 6 nl) (hO : OKA A rv z) (hr : r < 4) (hn4 : n ≤ 4) (hn : iv 12 r 2 = nI n) (hw : w < n) (hD : iv 16 (4 * r + w) 2 = nI D) (hD24 : D ≤ 24) (hd : D ≤ d) (hd2 : d < 100) (q : ∀ z', OKA A rv z' → K176 (A.1 0 0) (nI r) (A.1 19 0) (nI n) (lN R) (lN L) (lN ph) (lN o) y x 1 (nI (w + 1)) (z', hv A iv rv ov) Q) : P_L_roomHolds_b306 K176 (A.1 0 0) (nI r) (A.1 19 0) (nI n) (lN R) (lN L) (lN ph) (lN o) y x 1 (nI w) (nI d) (z, hv A iv rv ov) Q := by
  unfold P_L_roomHolds_b306
  rw [if_neg (by decide)]
  refine q_th hI hO (k_cut_d hI hr hn4 hn hw hD hD24 hd hd2) (fun _ => hk1) (fun z1 hO => ?_)
  rw [if_pos rfl]
  unfold P_L_roomHolds_b332
  rw [nI_1]
  exact q z1 hO
theorem rh190 {D H S T : Nat} (hI : INV A iv rv 3 6 nl) (hr : r < 4) (hn4 : n ≤ 4) (hn : iv 12 r 2 = nI n) (hw : w < n) (hD : iv 16 (4 * r + w) 2 = nI D) (hD24 : D ≤ 24) (hH60 : H ≤ 60) (h19 : A.2.2 19 0 = true) (hH : iv 19 0 (4 * r + w) = nI H) (hR1 : 1 ≤ R) (hR : R ≤ 10) (hL : L ≤ 200) (ho : o ≤ 20) (hph : ph < R)
    (hc : ∀ d z, d < D → ∃ a b, a < o ∧ b + H ≤ L ∧ b % R = ph ∧ F_X7_cut (A.1 0 0) (nI r) (nI w) (nI d) (z, hv A iv rv ov) = rtv (nI (1000 * a + b)) (z, hv A iv rv ov))
    (q : ∀ z', OKA A rv z' → K176 (A.1 0 0) (nI r) (A.1 19 0) (nI n) (lN R) (lN L) (lN ph) (lN o) (lN (S + D * H)) (nI (T + D)) 1 (nI (w + 1)) (z', hv A iv rv ov) Q) : ∀ g d N z, d + g = D → g < N → OKA A rv z → P_L_roomHolds_b190 K176 N (A.1 0 0) (nI r) (A.1 19 0) (nI n) (lN R) (lN L) (lN ph) (lN o) (lN (S + d * H)) (nI (T + d)) 1 (nI w) (nI d) (z, hv A iv rv ov) Q := by
  intro g
  induction g with
  | zero =>
    intro d N z hd hN hO
    obtain ⟨N, rfl⟩ : ∃ N', N = N' + 1 := ⟨N - 1, by omega⟩
    have hd' : d = D := hd
    subst hd'
    unfold P_L_roomHolds_b190
    by_cases h24 : 24 ≤ d
    · rw [if_pos (show (24 : Int32) ≤ nI d from nI_le (a := 24) h24 (by omega))]
      exact rh306 hI hO hr hn4 hn hw hD hD24 (Nat.le_refl _) (by omega) q
    · rw [if_neg (show ¬ (24 : Int32) ≤ nI d from nI_ge (b := 24) (by omega) (by decide)), if_neg (by decide)]
      refine q_th hI hO (k_cut_d hI hr hn4 hn hw hD hD24 (Nat.le_refl _) (by omega)) (fun _ => hk1) (fun z1 hO => ?_)
      rw [if_pos (by decide)]
      exact rh306 hI hO hr hn4 hn hw hD hD24 (Nat.le_refl _) (by omega) q
  | succ g ih =>
    intro d N z hd hN hO
    obtain ⟨N, rfl⟩ : ∃ N', N = N' + 1 := ⟨N - 1, by omega⟩
    obtain ⟨a, b, c1, c2, c3, c4⟩ := hc d z (by omega)
    have e4 : (4 : Int32) * nI r + nI w = nI (4 * r + w) := by rw [show (4 : Int32) = nI 4 from rfl, pk_mul, nI_add]
    have eb : lrm (lN (1000 * a + b)) 1000 = lN b := by
      rw [show (1000 : Int64) = lN 1000 from rfl, lrm_l (by omega) (by decide) (by decide), show (1000 * a + b) % 1000 = b by omega]
    have ea : lN (1000 * a + b) / 1000 = lN a := by
      rw [show (1000 : Int64) = lN 1000 from rfl, pk_lDiv (by omega) (by decide) (by decide), show (1000 * a + b) / 1000 = a by omega]
    unfold P_L_roomHolds_b190
    rw [if_neg (show ¬ (24 : Int32) ≤ nI d from nI_ge (b := 24) (by omega) (by decide)), if_neg (by decide)]
    refine q_ok hI c4 ?_
    rw [nI_l (by omega), if_neg (l_n0 (by omega))]
    refine q_ok hI c4 ?_
    rw [nI_l (by omega)]
    refine nz_l (by decide) (nz_l (l_ne0 hR1 (by omega)) ?_)
    rw [eb, lrm_l (by omega) (by omega) (by omega), c3, if_pos rfl, e4]
    refine nz_l (by decide) (q_ald hI.1 h19 (by rfl) (show 4 * r + w < 16 by omega) ?_)
    rw [hH, nI_l (by omega), lN_add, if_neg (show ¬ lN L < lN (b + H) from fun x => by have := (lN_lt (by omega) (by omega)).mp x; omega)]
    refine nz_l (by decide) ?_
    rw [ea, if_neg (show ¬ lN o ≤ lN a from fun x => by have := (lN_le (by omega) (by omega)).mp x; omega)]
    unfold P_L_roomHolds_b281
    rw [e4]
    refine q_ald hI.1 h19 (by rfl) (show 4 * r + w < 16 by omega) ?_
    rw [hH, nI_l (by omega), lN_add, nI_1, nI_1, Nat.add_assoc, ← Nat.succ_mul]
    exact ih (d + 1) N z (by omega) (by omega) hO
theorem rh176 {l : Nat} (hI : INV A iv rv 3 6 nl) (hr : r < 4) (hn4 : n ≤ 4) (hn : iv 12 r 2 = nI n) (hHT : HT iv) (h19 : A.2.2 19 0 = true) (hl : l < nl) (b2 : rv 12 r 3 = some (11, l)) (hW : ∀ w, w < n → WREL A iv rv (4 * r + w)) (hR1 : 1 ≤ R) (hR : R ≤ 10) (hL : L ≤ 200) (ho : o ≤ 20) (hph : ph < R) (i14 : iv 14 r 1 = nI o) (i11 : iv 11 l 3 = nI L) (hLA : LASTS iv r n o L) (hCU : CUTS iv r n R ph L o) (q : ∀ z', OKA A rv z' → Q 1 (z', hv A iv rv ov)) : ∀ g w N z, w + g = n → g < N → OKA A rv z → P_L_roomHolds_b176 N (A.1 0 0) (nI r) (A.1 19 0) (nI n) (lN R) (lN L) (lN ph) (lN o) (lN (nsum (fun j => dN iv r j * hN iv r j) w)) (nI (nsum (dN iv r) w)) 1 (nI w) (z, hv A iv rv ov) Q := by
  have hs : ∀ w, w ≤ n → nsum (dN iv r) w ≤ w * 24 := fun w hw => nsum_le w (fun k hk => (wrel_of (hW k (by omega))).2.2.2.1)
  intro g
  induction g with
  | zero =>
    intro w N z hw hNN hO
    obtain ⟨N, rfl⟩ : ∃ N', N = N' + 1 := ⟨N - 1, by omega⟩
    have hw' : w = n := hw
    subst hw'
    obtain ⟨e, e1, e2⟩ := hLA
    have e3 := nsum_le (e := e) (L := L) o (fun k hk => (e1 k hk).2)
    have hoL : o * L ≤ 20 * 200 := Nat.mul_le_mul ho hL
    have hA2 : nsum (fun j => dN iv r j * hN iv r j) w ≤ o * L := Nat.le_trans e2 e3
    have k1 := k_room1 (z := z) (ov := ov) hI hr hn4 hn
    rw [isum_nI (g := dN iv r) w (fun k hk => (wrel_of (hW k hk)).1)] at k1
    have k5 := k_room5 (z := z) (ov := ov) hI hr hn4 hn hl b2
    rw [isum_nI (g := fun j => dN iv r j * hN iv r j) w (fun k hk => by
      obtain ⟨y1, y3, -⟩ := wrel_of (hW k hk)
      show iv 16 (4 * r + k) 2 * iv 16 (4 * r + k) 0 = nI (dN iv r k * hN iv r k)
      rw [← pk_mul, ← y1, ← y3]), i14, i11, pk_mul, pk_sub hA2] at k5
    have hs' := hs w (Nat.le_refl _)
    unfold P_L_roomHolds_b176
    rw [if_pos (nI_le (Nat.le_refl _) (by omega))]
    unfold P_L_roomHolds_b340
    rw [if_neg (by decide)]
    refine q_ok hI k1 ?_
    rw [if_pos rfl]
    refine q_ok hI k5 ?_
    rw [nI_l (by omega), lN_mul, lN_sub hA2, if_pos rfl]
    refine q_ok hI k5 ?_
    rw [nI_l (by omega), if_neg (l_n0 (by omega))]
    exact ⟨Or.inr rfl, q z hO⟩
  | succ g ih =>
    intro w N z hw hNN hO
    obtain ⟨N, rfl⟩ : ∃ N', N = N' + 1 := ⟨N - 1, by omega⟩
    obtain ⟨y1, y3, y5, y6, y7, y8⟩ := wrel_of (hW w (by omega))
    have hH := (hHT r n w hr hn hn4 (by omega)).trans y3
    unfold P_L_roomHolds_b176
    rw [if_neg (nI_ge (by omega) (by omega)), if_neg (by decide)]
    have k := rh190 (K176 := P_L_roomHolds_b176 N) (S := nsum (fun j => dN iv r j * hN iv r j) w) (T := nsum (dN iv r) w) (ov := ov) (Q := Q) hI hr hn4 hn (show w < n by omega) y1 y6 y8 h19 hH hR1 hR hL ho hph (fun d z hd => by
      obtain ⟨a, b, c1, c2, c3, c4⟩ := hCU w (dN iv r w) (hN iv r w) d (by omega) y1 y6 y3 y8 hd
      refine ⟨a, b, c1, c2, c3, ?_⟩
      have kc := k_cut (z := z) (ov := ov) (d := d) hI hr hn4 hn (show w < n by omega) (fun D hD hD24 => by
        have := nI_inj (a := D) (b := dN iv r w) (by omega) (by omega) (hD.symm.trans y1)
        omega)
      rw [kc, if_neg (by rw [b2]; exact fun x => by cases x), c4]) (fun z' hO' => ih (w + 1) N z' (by omega) (by omega) hO') (dN iv r w) 0 25 z (by omega) (by omega) hO
    rw [Nat.zero_mul, Nat.add_zero, Nat.add_zero] at k
    exact k
theorem lot_high {l q z : Nat} {Q : Int64 → hpT → Prop} (hI : INV A iv rv 3 6 nl) (hl : l < nl) (hRR : RRl iv 6) (r11 : rv 11 l 0 = some (8, q)) (i9 : iv 9 q 1 = nI R) (hR : R ≤ 10) (k : Q (lN R) (z, hv A iv rv ov)) : P_L_lotHigh (A.1 0 0) (nI l) (z, hv A iv rv ov) Q := by
  obtain ⟨q', kk, L', p1, p2, p3, p4, p5, -⟩ := hI.2.2.2.2.2.1 l hl
  have eq' : q' = q := by
    rw [p4] at r11
    cases r11
    rfl
  subst eq'
  obtain ⟨w, hh, s, hP, h7⟩ := hI.2.2.2.1 (q' % 3) (Nat.mod_lt _ (by decide))
  obtain ⟨a1, a2, a3, a4, a5, a6, a7, a8, a9, a10⟩ := id hP
  have r2 := rrM_le (w := hh) (s := s) a8
  have eR : R = rrM hh s := nI_inj (by omega) (by omega) (i9.symm.trans ((hRR q' p1).trans a6))
  have k0 := k_lotOf (z := z) (ov := ov) (n := 0) hI hl (Or.inl rfl)
  rw [if_pos rfl, p5] at k0
  unfold P_L_lotHigh P_L_lotHigh_b0
  refine q_ok hI k0 ?_
  refine nz_i (by decide) ?_
  rw [tl, show (3 : Int32) = nI 3 from rfl, irm_n (by omega) (by decide) (by decide)]
  refine q_ok hI (k_rep1 hI (Nat.mod_lt _ (by decide)) hP) ?_
  rw [← eR, nI_l (by omega)]
  exact k
theorem room_holds {z : Nat} (hI : INV A iv rv 3 6 nl) (hO : OKA A rv z) (hr : r < 4) (hRR : RRl iv 6) (hHT : HT iv) (h19 : A.2.2 19 0 = true) (q : ∀ z', OKA A rv z' → Q 1 (z', hv A iv rv ov)) : P_L_roomHolds (A.1 0 0) (nI r) (A.1 19 0) (z, hv A iv rv ov) Q := by
  obtain ⟨g1, g2, g3, g4, g5, g6, g7, n, g8, g9, g11, g12, g13, g14⟩ := hI.2.2.2.2.2.2 r hr
  have e0 := k_room0 (z := z) (ov := ov) hI hr
  rw [g9] at e0
  unfold P_L_roomHolds P_L_roomHolds_b0
  refine q_ok hI e0 ?_
  rcases g14 with b1 | ⟨l, hl, n1, b2, oo, ph, L, R, kk, qq, q1, q3, q5, q6, q7, q9, q10, q11, q12, q13, q14, q15, q16, q17, q18⟩
  · refine q_ok hI (k_roomN (k := 2) hI hr b1 (by decide)) ?_
    rw [if_neg (by decide)]
    refine q_ok hI (k_roomN (k := 3) hI hr b1 (by decide)) ?_
    rw [if_pos (by decide)]
    refine q_ok hI (k_roomN (k := 4) hI hr b1 (by decide)) ?_
    rw [if_pos (by decide)]
    refine q_ok hI (k_roomN (k := 5) hI hr b1 (by decide)) ?_
    rw [if_pos (by decide), tl]
    by_cases hn : n = 0
    · subst hn
      rw [if_pos (by decide)]
      exact ⟨Or.inr rfl, q z hO⟩
    · rw [if_neg (nI_ne0 (by omega) (by omega))]
      have kc := k_cut (z := z) (ov := ov) (w := 0) (d := 0) hI hr g8 g9 (by omega) (fun D hD hD24 => by
        obtain ⟨y1, y3, y5, y6, y7, y8⟩ := wrel_of (g13 0 (by omega))
        have := nI_inj (a := D) (b := dN iv r 0) (by omega) (by omega) (hD.symm.trans y1)
        omega)
      rw [if_pos b1] at kc
      refine q_ok hI kc ?_
      rw [if_pos (by decide)]
      refine q_ok hI (k_seen_n (w := 0) hI hr g8 g9 (by omega) b1) ?_
      rw [if_pos (by decide)]
      exact ⟨Or.inr rfl, q z hO⟩
  · have ho1 : 1 ≤ oo := by
      obtain ⟨y1, y3, y5, y6, y7, y8⟩ := wrel_of (g13 0 (by omega))
      obtain ⟨a, b, c1, -⟩ := q18 0 (dN iv r 0) (hN iv r 0) 0 (by omega) y1 y6 y3 y8 y5
      omega
    have e2 := k_roomS (z := z) (ov := ov) (k := 2) hI hr b2 (by decide)
    rw [if_pos rfl, q1] at e2
    have e3 := k_roomS (z := z) (ov := ov) (k := 3) hI hr b2 (by decide)
    rw [if_neg (by decide), if_pos rfl, q7] at e3
    have e4 := k_roomS (z := z) (ov := ov) (k := 4) hI hr b2 (by decide)
    rw [if_neg (by decide), if_neg (by decide), q3] at e4
    have e5 := k_lotOf (z := z) (ov := ov) (n := 3) hI hl (by decide)
    rw [if_neg (by decide), if_neg (by decide), q10] at e5
    have hl10 : l < 10 := by
      obtain ⟨q', kk, L', p1, p2, -⟩ := hI.2.2.2.2.2.1 l hl
      exact p2
    refine q_ok hI e2 ?_
    rw [nI_l (n := l) (by omega), if_pos (l_p0 (by omega)), lN_i l]
    refine lot_high hI hl hRR q13 q14 q15 ?_
    refine q_ok hI e5 ?_
    refine q_ok hI e3 ?_
    refine q_ok hI e4 ?_
    rw [nI_l (n := L) (by omega), nI_l (n := ph) (by omega), nI_l (n := oo) (by omega), if_neg (l_n0 (by omega)), if_neg (show ¬ lN R ≤ lN ph from fun x => by have := (lN_le (by omega) (by omega)).mp x; omega), if_neg (l_n1 ho1 (by omega)), tl]
    unfold P_L_roomHolds_b171
    exact rh176 hI hr g8 g9 hHT h19 hl b2 g13 (by omega) q15 q11 (by omega) q16 q3 q10 q17 q18 q n 0 5 z (by omega) (by omega) hO
end RH
