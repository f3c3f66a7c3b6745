/-! hang -/
section HA
variable {A : Adr} {iv : IVt} {rv : RVt} {ov : Nat → Int64} {z np nr nl : Nat}
/-- what a bare room's rolls and cuts hold doesn't count -/
theorem INV.cfr {iv2 : IVt} {r : Nat} (h : INV A iv rv np nr nl) (hr : r < 4) (hb : rv 12 r 3 = none) (he : CFR r iv iv2) : INV A iv2 rv np nr nl := by
  have e : ∀ T i j, T ≠ 14 ∧ T ≠ 15 ∧ T ≠ 17 → iv2 T i j = iv T i j := fun T i j q => he.at q
  refine h.same (fun j _ => e _ _ _ (by decide)) (fun T i j q => e _ _ _ (by omega)) (fun i hi => (h.2.2.2.1 i hi).col (fun j => e _ _ _ (by decide))) (fun _ _ _ _ => rfl) (fun i hi => (h.2.2.2.2.2.1 i hi).to (Nat.le_refl _) (fun _ _ q => q) rfl (fun _ => e _ _ _ (by decide))) (fun r' hr' => ?_)
  by_cases hrr : r' = r
  · subst hrr
    obtain ⟨a1, a2, a3, a4, a5, a6, a7, n, a8, a9, a11, a12, a13, a14⟩ := h.2.2.2.2.2.2 r' hr'
    exact ⟨a1, a2, a3, a4, a5, a6, a7, n, a8, (e _ _ _ (by decide)).trans a9, a11, a12, fun w hw => (a13 w hw).to (fun _ _ q => q) rfl (fun _ => e _ _ _ (by decide)), Or.inl hb⟩
  · exact (h.2.2.2.2.2.2 r' hr').to (Nat.le_refl _) (fun _ _ q => q) (fun _ _ q => q) (fun _ => rfl) rfl (fun _ _ => rfl) (fun _ _ => rfl) (fun _ _ => rfl) (fun j => e _ _ _ (by decide)) (fun j => he _ _ _ (by omega) (by omega) (by omega)) (fun j => he _ _ _ (by omega) (by omega) (by omega)) (fun w j hw => e _ _ _ (by decide)) (fun w j hw => he _ _ _ (by omega) (by omega) (by omega)) (fun _ _ => e _ _ _ (by decide)) (fun l k _ hk => ⟨k, Nat.le_refl _, (e _ _ _ (by decide)).trans hk⟩) (fun _ _ _ _ => e _ _ _ (by decide))
theorem lot_of {l : Nat} (h : INV A iv rv np nr nl) (hl : l < nl) : ∃ q L R m, q < nr ∧ l < 10 ∧ CLT A iv rv l q L R m ∧ 1 ≤ R := by
  obtain ⟨lq, k, L, p1, p2, p3, p4, p5, p8, p10, p11, p12, p13⟩ := h.2.2.2.2.2.1 l hl
  obtain ⟨c, r, rd, r2, r5, r6, r7, r8, r10, r11⟩ := h.2.2.2.2.1 lq p1
  obtain ⟨e1, e2, e3, e4, e5, e6, e7, e8, e9, e10, e11, e12⟩ := id r7
  exact ⟨lq, L, r, k, p1, p2, ⟨p3, r5, e1, p4, r6, p8, p11, e8, p10, p13, e12⟩, e11⟩
def dN (iv : IVt) (r w : Nat) : Nat := vN (iv 16 (4 * r + w) 2)
def hN (iv : IVt) (r w : Nat) : Nat := vN (iv 16 (4 * r + w) 0)
theorem wrel_of {r w : Nat} (h : WREL A iv rv (4 * r + w)) : iv 16 (4 * r + w) 2 = nI (dN iv r w) ∧ iv 16 (4 * r + w) 0 = nI (hN iv r w) ∧ 1 ≤ dN iv r w ∧ dN iv r w ≤ 24 ∧ 1 ≤ hN iv r w ∧ hN iv r w ≤ 60 := by
  obtain ⟨d, hh, w1, w2, w3, w4, w5, w7, w8, w9, w11, w12⟩ := h
  have e1 : dN iv r w = d := by
    unfold dN
    rw [w5, vN_nI (by omega)]
  have e2 : hN iv r w = hh := by
    unfold hN
    rw [w9, vN_nI (by omega)]
  rw [e1, e2]
  exact ⟨w5, w9, w7, w8, w11, w12⟩
theorem k_hang_x {v1 v2 : Int32} (h : INV A iv rv np nr nl) (hx : ¬ ∃ j, j < 4 ∧ v1 = nI j) : F_X7_hang (A.1 0 0) v1 v2 (z, hv A iv rv ov) = tht IX (z, hv A iv rv ov) := by
  have hA := h.1
  obtain ⟨⟨t0, -⟩, -⟩ := id h.2.1
  unfold F_X7_hang
  rw [isO_hv hA t0 (by rfl) (by decide), roomAt_out h hx, bnd_t]
theorem k_hang_l {r : Nat} {v2 : Int32} (h : INV A iv rv np nr nl) (hr : r < 4) (hy : ¬ ∃ j, j < nl ∧ v2 = nI j) : F_X7_hang (A.1 0 0) (nI r) v2 (z, hv A iv rv ov) = tht IX (z, hv A iv rv ov) := by
  have hA := h.1
  obtain ⟨⟨t0, -⟩, -⟩ := id h.2.1
  unfold F_X7_hang
  rw [isO_hv hA t0 (by rfl) (by decide), roomAt_in h hr, bnd_v, isO_hv hA t0 (by rfl) (by decide), lotAt_out h hy, bnd_t]
theorem k_hang {r l : Nat} (h : INV A iv rv np nr nl) (hr : r < 4) (hl : l < nl) :
    (∃ iv', F_X7_hang (A.1 0 0) (nI r) (nI l) (z, hv A iv rv ov) = tht IS (z, hv A iv' rv ov) ∧ INV A iv' rv np nr nl ∧ CFR r iv iv') ∨
    (∃ iv' o m, rv 12 r 3 = none ∧ F_X7_hang (A.1 0 0) (nI r) (nI l) (z, hv A iv rv ov) = rtv (nI o) (z, hv A iv' (u3 rv 12 r 3 (some (11, l))) ov) ∧ A.2.2 11 l = true ∧ 1 ≤ o ∧ o ≤ m ∧ m ≤ 20 ∧ iv 11 l 4 = nI m ∧ iv' 11 l 4 = nI (m - o) ∧ iv' 14 r 1 = nI o ∧ iv' 12 r 4 = nI l ∧ INV A iv' (u3 rv 12 r 3 (some (11, l))) np nr nl ∧ (∀ T i j, T ≠ 11 ∧ T ≠ 12 ∧ T ≠ 14 ∧ T ≠ 15 ∧ T ≠ 17 → iv' T i j = iv T i j) ∧ ∀ i, iv' 12 i 2 = iv 12 i 2) := by
  have hA := h.1
  obtain ⟨⟨t0, -⟩, -⟩ := id h.2.1
  obtain ⟨g1, g2, g3, g4, g5, g6, g7, n, g8, g9, g11, g12, g13, g14⟩ := h.2.2.2.2.2.2 r hr
  have cHead : ∀ K : Nat → Nat → hpT → Rs Int32, isO (z, hv A iv rv ov) (A.1 0 0) 7 (bnd (F_X7_roomAt (A.1 0 0) (nI r) (z, hv A iv rv ov)) fun a21 h21 => isO h21 (A.1 0 0) 7 (bnd (F_X7_lotAt (A.1 0 0) (nI l) h21) fun a22 h22 => K a21 a22 h22)) = K (A.1 12 r) (A.1 11 l) (z, hv A iv rv ov) := by
    intro K
    rw [isO_hv hA t0 (by rfl) (by decide), roomAt_in h hr, bnd_v, isO_hv hA t0 (by rfl) (by decide), lotAt_in h hl, bnd_v]
  rcases g14 with b1 | ⟨l', a, n1, b2, c⟩
  · by_cases hn : n = 0
    · subst hn
      refine Or.inl ⟨iv, ?_, h, CFR.rfl⟩
      refine (cHead _).trans ?_
      rw [isO_hv hA g1 (by rfl) (by decide), cHung_n hA g1 b1, bnd_v, if_pos rfl, gfI_hv hA g1 (by rfl) (by decide) (by rfl), g9, if_pos (by rfl)]
    · obtain ⟨q, L, R, m, hq, l10, hC, hR1⟩ := lot_of h hl
      obtain ⟨a1, a2, a3, a4, a5, a6, a7, a8, a9, a10, a11⟩ := id hC
      have hW : RW A rv r n := ⟨g1, g2, g3, g4, g5, g6, g7, g8, g11, fun w hw => by
        obtain ⟨d, hh, w1, w2, w3, w4, -⟩ := g13 w hw
        exact ⟨w2, w3, w4⟩⟩
      have hD : DH iv r n (dN iv r) (hN iv r) := fun w hw => by
        obtain ⟨y1, y3, y5, y6, y7, y8⟩ := wrel_of (g13 w hw)
        exact ⟨y1, y3, y6, y8⟩
      obtain ⟨ivb, B1, B2⟩ := best8 (z := z) (ov := ov) (R := R) (L := L) (m := m) (q := q) (l := l) hA hW R 0 1000 (by omega) (by omega) iv (-1) 21 hD hC
      have cBest : F_X5_bestPhase (A.1 12 r) (A.1 11 l) (z, hv A iv rv ov) = rtv (bst (rn L R m (dN iv r) (hN iv r) n) R 0 (-1) 21) (z, hv A ivb rv ov) := B1
      rcases bst_ok (run := rn L R m (dN iv r) (hN iv r) n) R 0 (-1) 21 with hbst | ⟨p0, n0, -, hp0, hbst, hrn⟩
      · refine Or.inl ⟨ivb, ?_, h.cfr hr b1 B2, B2⟩
        refine (cHead _).trans ?_
        rw [isO_hv hA g1 (by rfl) (by decide), cHung_n hA g1 b1, bnd_v, if_pos rfl, gfI_hv hA g1 (by rfl) (by decide) (by rfl), g9, if_neg (nI_ne0 (by omega) (by omega)), isO_hv hA g1 (by rfl) (by decide), cBest, bnd_v, hbst, if_pos rfl]
      · have hp0' : p0 < R := by omega
        obtain ⟨⟨s', C'⟩, hws, hs1⟩ : ∃ sc, wls L R p0 m (dN iv r) (hN iv r) n 0 (0, fun _ => 0) (fun _ _ => (0, 0)) = some sc ∧ sc.1.1 = n0 := by
          unfold rn at hrn
          cases hw : wls L R p0 m (dN iv r) (hN iv r) n 0 (0, fun _ => 0) (fun _ _ => (0, 0)) with
          | none => rw [hw] at hrn; cases hrn
          | some sc => rw [hw] at hrn; exact ⟨sc, rfl, Option.some.inj hrn⟩
        have hS0 : SOK L R p0 m (0, fun _ => 0) := ⟨Nat.zero_le _, a9, a10, a11, hp0', fun k hk => absurd hk (Nat.not_lt_zero k)⟩
        obtain ⟨W1, -, W2, -⟩ := wls_ok _ _ _ _ _ _ hS0 hws
        have W3 : nsum (fun _ => 0) 0 + nsum (fun j => dN iv r j * hN iv r j) (0 + n) ≤ nsum s'.2 s'.1 + nsum (fun j => dN iv r j * hN iv r j) 0 := wls_sum _ _ _ _ _ _ hS0 hws
        have Db : DH ivb r n (dN iv r) (hN iv r) := hD.to (fun w j _ => B2.at (by decide))
        have Cb : CLT A ivb rv l q L R m := hC.to (fun _ => B2.at (by decide)) (B2.at (by decide))
        obtain ⟨y1, y2, y3, y4, y5, y6, y7, y8, y9, y10, y11⟩ := id Cb
        obtain ⟨-, T2⟩ := cutall_spec (z := z) (ov := ov) (p := p0) (fun _ _ => (0, 0)) hA hW Db y1 y2 y3 y4 y5 y6 y7 y8 y9 y10 y11 hp0'
        obtain ⟨ivc, E1, E2, E3, E4⟩ := T2 s' C' hws
        obtain ⟨c1, c2, c3, c4, c5, c6, c7, c8, c9, c10⟩ := id E3
        have F2 : CFR r iv ivc := B2.trans E2
        have s20 : s'.1 ≤ m := W1.1
        have hs1' : 1 ≤ s'.1 := by
          obtain ⟨z1, z2, z3, z4, z5, z6⟩ := wrel_of (g13 0 (by omega))
          have := (W2 0 0 (Nat.zero_le _) (by omega) z3).1
          omega
        have f1 : ∀ T i j, T ≠ 11 ∧ T ≠ 12 ∧ T ≠ 14 ∧ T ≠ 15 ∧ T ≠ 17 → u3 (u3 ivc 11 l 4 (nI (m - s'.1))) 12 r 4 (nI l) T i j = iv T i j := fun T i j x => by rw [u3_T x.2.1, u3_T x.1, F2.at x.2.2]
        have e11 : ∀ i j, i ≠ l ∨ j ≠ 4 → u3 (u3 ivc 11 l 4 (nI (m - s'.1))) 12 r 4 (nI l) 11 i j = iv 11 i j := fun i j hi => by rw [u3_T (by decide), u3_n (by omega), F2.at (by decide)]
        have e114 : u3 (u3 ivc 11 l 4 (nI (m - s'.1))) 12 r 4 (nI l) 11 l 4 = nI (m - s'.1) := by rw [u3_T (by decide), u3_s]
        have e12 : ∀ i j, i ≠ r ∨ j ≠ 4 → u3 (u3 ivc 11 l 4 (nI (m - s'.1))) 12 r 4 (nI l) 12 i j = iv 12 i j := fun i j hi => by rw [u3_n (by omega), u3_T (by decide), F2.at (by decide)]
        have ec : ∀ T i j, T = 14 ∨ T = 15 ∨ T = 17 → u3 (u3 ivc 11 l 4 (nI (m - s'.1))) 12 r 4 (nI l) T i j = ivc T i j := fun T i j hT => by rw [u3_T (by omega), u3_T (by omega)]
        have er : ∀ T i j, T ≠ 12 ∨ i ≠ r ∨ j ≠ 3 → u3 rv 12 r 3 (some (11, l)) T i j = rv T i j := fun T i j q => u3_n (by omega)
        refine Or.inr ⟨u3 (u3 ivc 11 l 4 (nI (m - s'.1))) 12 r 4 (nI l), s'.1, m, b1, ?_, a1, hs1', s20, a9, a6, e114, (ec _ _ _ (by omega)).trans c4, u3_s, ?_, f1, fun i => e12 _ _ (Or.inr (by decide))⟩
        · refine (cHead _).trans ?_
          rw [isO_hv hA g1 (by rfl) (by decide), cHung_n hA g1 b1, bnd_v, if_pos rfl, gfI_hv hA g1 (by rfl) (by decide) (by rfl), g9, if_neg (nI_ne0 (by omega) (by omega)), isO_hv hA g1 (by rfl) (by decide), cBest, bnd_v, hbst, if_neg (nI_m1 (by omega)), isO_hv hA g1 (by rfl) (by decide)]
          unfold F_X5_hangFrom
          rw [isO_hv hA g1 (by rfl) (by decide), E1, bnd_v, gfI_hv hA a1 (by rfl) (by decide) (by rfl), F2.at (by decide), a6, gfR_hv hA g1 (by rfl) (by decide) (by rfl), g6, rfv_s, nn_s, gfI_hv hA g3 (by rfl) (by decide) (by rfl), c4, pk_sub s20, pf_hv hA a1 (by rfl) (by decide) (by rfl), pfR_hv hA g1 (by rfl) (by decide) (by rfl), pf_hv hA g1 (by rfl) (by decide) (by rfl), gfR_hv hA g1 (by rfl) (by decide) (by rfl), u3_n (by omega), g6, rfv_s, nn_s, gfI_hv hA g3 (by rfl) (by decide) (by rfl), u3_T (by decide), u3_T (by decide), c4, bnd_v]
        · have e124 : u3 (u3 ivc 11 l 4 (nI (m - s'.1))) 12 r 4 (nI l) 12 r 4 = nI l := u3_s
          generalize u3 (u3 ivc 11 l 4 (nI (m - s'.1))) 12 r 4 (nI l) = iv2 at f1 e11 e114 e12 e124 ec ⊢
          refine h.same (fun j _ => f1 _ _ _ (by decide)) (fun T i j q => f1 _ _ _ (by omega)) (fun i hi => (h.2.2.2.1 i hi).col (fun j => f1 _ _ _ (by decide))) (fun T i j q => er _ _ _ (Or.inl q)) (fun i hi => ?_) (fun r' hr' => ?_)
          · obtain ⟨lq, lk, lL, p1, p2, p3, p4, p5, p6, p7, p8, p9, p10⟩ := h.2.2.2.2.2.1 i hi
            by_cases hil : i = l
            · subst hil
              exact ⟨lq, m - s'.1, lL, p1, p2, p3, (er _ _ _ (by omega)).trans p4, (e11 _ _ (Or.inr (by decide))).trans p5, e114, by omega, (e11 _ _ (Or.inr (by decide))).trans p8, p9, p10⟩
            · exact (h.2.2.2.2.2.1 i hi).to (Nat.le_refl _) (fun _ _ q => q) (er _ _ _ (by omega)) (fun j => e11 _ _ (Or.inl hil))
          · by_cases hrr : r' = r
            · subst hrr
              refine ⟨g1, g2, g3, g4, (er _ _ _ (by omega)).trans g5, (er _ _ _ (by omega)).trans g6, (er _ _ _ (by omega)).trans g7, n, g8, (e12 _ _ (Or.inr (by decide))).trans g9, fun w hw => (er _ _ _ (by omega)).trans (g11 w hw), g12, fun w hw => (g13 w hw).to (fun _ _ q => q) (er _ _ _ (by omega)) (fun _ => f1 _ _ _ (by decide)), Or.inr ⟨l, hl, by omega, u3_s, s'.1, p0, L, R, m - s'.1, q, e124, (ec _ _ _ (by omega)).trans c4, e114, by omega, (ec _ _ _ (by omega)).trans c8, (ec _ _ _ (by omega)).trans c6, (e11 _ _ (Or.inr (by decide))).trans a7, a10, (ec _ _ _ (by omega)).trans c7, (er _ _ _ (by omega)).trans a4, (f1 _ _ _ (by decide)).trans a8, a11, hp0', ⟨s'.2, fun k hk => ⟨(ec _ _ _ (by omega)).trans (c9 k hk), W1.2.2.2.2.2 k hk⟩, ?_⟩, ?_⟩⟩
              · rw [area_to (iv := iv) (fun w j hw => f1 _ _ _ (by decide)), show nsum s'.2 s'.1 = nsum s'.2 s'.1 + nsum (fun j => dN iv r' j * hN iv r' j) 0 from rfl]
                refine Nat.le_trans ?_ W3
                rw [Nat.zero_add]
                exact Nat.le_add_left _ _
              · intro w D hh d hw hDw hD24 hHw hH60 hd
                obtain ⟨y1, y3, y5, y6, y7, y8⟩ := wrel_of (g13 w hw)
                have hDe : D = dN iv r' w := nI_inj (by omega) (by omega) (hDw.symm.trans ((f1 _ _ _ (by decide)).trans y1))
                have hHe : hh = hN iv r' w := nI_inj (by omega) (by omega) (hHw.symm.trans ((f1 _ _ _ (by decide)).trans y3))
                subst hDe hHe
                obtain ⟨u1, u2, u3'⟩ := W2 w d (Nat.zero_le _) (by omega) hd
                exact ⟨(C' w d).1, (C' w d).2, u1, u2, u3', (ec _ _ _ (by omega)).trans (E4 w d hw hd)⟩
            · refine (h.2.2.2.2.2.2 r' hr').to (Nat.le_refl _) (fun _ _ q => q) (fun _ _ q => q) (fun _ => er _ _ _ (by omega)) (er _ _ _ (by omega)) (fun _ _ => er _ _ _ (by omega)) (fun _ _ => er _ _ _ (by omega)) (fun _ _ => er _ _ _ (by omega)) (fun j => e12 _ _ (Or.inl hrr)) (fun j => (ec _ _ _ (by omega)).trans (F2 _ _ _ (by omega) (by omega) (by omega))) (fun j => (ec _ _ _ (by omega)).trans (F2 _ _ _ (by omega) (by omega) (by omega))) (fun w j hw => f1 _ _ _ (by decide)) (fun w j hw => (ec _ _ _ (by omega)).trans (F2 _ _ _ (by omega) (by omega) (by omega))) (fun l2 hl2 => e11 _ _ (Or.inr (by decide))) (fun l2 k hl2 hk => ?_) (fun _ _ _ _ => f1 _ _ _ (by decide))
              by_cases hl2l : l2 = l
              · subst hl2l
                have hkm : m ≤ k := by
                  by_cases hk31 : k < 2 ^ 31
                  · have := nI_inj (a := k) (b := m) hk31 (by omega) (hk.symm.trans a6)
                    omega
                  · omega
                exact ⟨m - s'.1, by omega, e114⟩
              · exact ⟨k, Nat.le_refl _, (e11 _ _ (Or.inl hl2l)).trans hk⟩
  · refine Or.inl ⟨iv, ?_, h, CFR.rfl⟩
    refine (cHead _).trans ?_
    rw [isO_hv hA g1 (by rfl) (by decide), cHung_s hA g1 b2, bnd_v, if_neg (by decide)]
end HA
