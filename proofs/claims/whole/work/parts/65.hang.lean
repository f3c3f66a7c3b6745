/-! hang -/
section HA
variable {A : Adr} {iv : IVt} {rv : RVt} {ov : Nat → Int64} {z np nr nl : Nat}
/-- what a bare room's rolls and cuts hold doesn't count -/
theorem INV.scr {iv2 : IVt} {r : Nat} (h : INV A iv rv np nr nl) (hr : r < 4) (hb : rv 12 r 3 = none ∧ iv 35 0 r = -1) (he : ∀ T i j, ¬ (T = 14 ∧ i = r) → ¬ (T = 15 ∧ i = r) → ¬ (T = 17 ∧ 4 * r ≤ i ∧ i < 4 * r + 4) → T ≠ 20 → T ≠ 39 → ¬ ((T = 40 ∨ T = 41) ∧ 96 * r ≤ j ∧ j < 96 * r + 96) → iv2 T i j = iv T i j) (h20 : ∀ j, j ≠ 0 → j ≠ 23 → j ≠ 24 → j ≠ 25 → iv2 20 0 j = iv 20 0 j) : INV A iv2 rv np nr nl := by
  obtain ⟨g1, g2, g3, g4, g5, g6, g7⟩ := h
  have e : ∀ T i j, T ≠ 14 ∧ T ≠ 15 ∧ T ≠ 17 ∧ T ≠ 20 ∧ T ≠ 39 ∧ T ≠ 40 ∧ T ≠ 41 → iv2 T i j = iv T i j := fun T i j q => he T i j (fun w => q.1 w.1) (fun w => q.2.1 w.1) (fun w => q.2.2.1 w.1) q.2.2.2.1 q.2.2.2.2.1 (fun w => w.1.elim q.2.2.2.2.2.1 q.2.2.2.2.2.2)
  refine ⟨g1, g2, g3.to (fun j => e _ _ _ (by decide)) (h20 1 (by decide) (by decide) (by decide) (by decide)) (h20 6 (by decide) (by decide) (by decide) (by decide)) (h20 10 (by decide) (by decide) (by decide) (by decide)) (h20 28 (by decide) (by decide) (by decide) (by decide)) (fun k _ => e _ _ _ (by decide)), fun i hi => (g4 i hi).to (fun _ _ q => q) rfl rfl ?_ ?_ ?_ ?_ ?_ ?_ ?_, fun i hi => (g5 i hi).to (Nat.le_refl _) (fun _ _ q => q) rfl rfl ?_ ?_ ?_ ?_ ?_ ?_ ?_ ?_ ?_ ?_, fun i hi => (g6 i hi).to (Nat.le_refl _) (fun _ _ q => q) rfl ?_ ?_ ?_ ?_ ?_, fun r' hr' => ?_⟩
  rotate_left 22
  · by_cases hrr : r' = r
    · subst hrr
      obtain ⟨a1, a2, a3, a4, a5, a6, a7, n, a8, a9, a10, a11, a12, a13, a14⟩ := g7 r' hr'
      exact ⟨a1, a2, a3, a4, a5, a6, a7, n, a8, (e _ _ _ (by decide)).trans a9, (e _ _ _ (by decide)).trans a10, a11, a12, fun w hw => (a13 w hw).to (fun _ _ q => q) rfl (fun _ => e _ _ _ (by decide)) (e _ _ _ (by decide)) (e _ _ _ (by decide)), Or.inl ⟨hb.1, (e _ _ _ (by decide)).trans hb.2⟩⟩
    · refine (g7 r' hr').to (Nat.le_refl _) (fun _ _ q => q) (fun _ _ q => q) (fun _ => rfl) rfl (fun _ _ => rfl) (fun _ _ => rfl) (fun _ _ => rfl) ?_ (fun j => he _ _ _ (by omega) (by omega) (by omega) (by decide) (by decide) (by omega)) (fun j => he _ _ _ (by omega) (by omega) (by omega) (by decide) (by decide) (by omega)) ?_ (fun w j hw => he _ _ _ (by omega) (by omega) (by omega) (by decide) (by decide) (by omega)) ?_ ?_ ?_ ?_ ?_ ?_ ?_ (fun w d hw hd => he _ _ _ (by omega) (by omega) (by omega) (by decide) (by decide) (by omega)) (fun w d hw hd => he _ _ _ (by omega) (by omega) (by omega) (by decide) (by decide) (by omega)) ?_ (fun l k _ hk => ⟨k, Nat.le_refl _, (e _ _ _ (by decide)).trans hk⟩) ?_ <;> intros <;> exact e _ _ _ (by decide)
  all_goals intros
  all_goals exact e _ _ _ (by decide)
/-- what the invariant says of a lot, for the cutting -/
theorem lot_of {l : Nat} (h : INV A iv rv np nr nl) (hl : l < nl) : ∃ q L R m, q < nr ∧ l < 10 ∧ CLT A iv rv l q L R m ∧ MLT iv l L R ∧ iv 30 0 l = nI m ∧ 1 ≤ R := by
  obtain ⟨lq, lk, lL, p1, p2, p3, p4, p5, p6, p7, p8, p9, p10, p11, p12, p13, p14⟩ := h.2.2.2.2.2.1 l hl
  obtain ⟨p, pw, phh, s, rd, r1, r2, r3, r4, r5, r6, r7, r8, r9, r10, r11, r12⟩ := h.2.2.2.2.1 lq p1
  obtain ⟨e1, e2, e3, e4, e5, e6, e7, e8, e9, e10, e11, e12⟩ := id r7
  exact ⟨lq, lL, rrM phh s, lk, p1, p2, ⟨p3, r5, e1, p4, r6, p8, p11, e8, p10, p14, e12⟩, ⟨p2, p12, lq, p, pw, phh, s, p6, r2, r3, r4, rfl⟩, p9, e11⟩
def dN (iv : IVt) (r w : Nat) : Nat := (iv 16 (4 * r + w) 2).toNatClampNeg
def hN (iv : IVt) (r w : Nat) : Nat := (iv 16 (4 * r + w) 0).toNatClampNeg
theorem wrel_of {r w : Nat} (h : WREL A iv rv (4 * r + w)) : iv 16 (4 * r + w) 2 = nI (dN iv r w) ∧ iv 33 0 (4 * r + w) = nI (dN iv r w) ∧ iv 16 (4 * r + w) 0 = nI (hN iv r w) ∧ iv 34 0 (4 * r + w) = nI (hN iv r w) ∧ 1 ≤ dN iv r w ∧ dN iv r w ≤ 24 ∧ 1 ≤ hN iv r w ∧ hN iv r w ≤ 60 := by
  obtain ⟨d, hh, w1, w2, w3, w4, w5, w6, w7, w8, w9, w10, w11, w12⟩ := h
  have e1 : dN iv r w = d := by
    unfold dN
    rw [w5, nI_clamp (by omega)]
  have e2 : hN iv r w = hh := by
    unfold hN
    rw [w9, nI_clamp (by omega)]
  rw [e1, e2]
  exact ⟨w5, w6, w9, w10, w7, w8, w11, w12⟩
theorem sc9 {v1 v2 : Int32} (h : INV A iv rv np nr nl) (hF : RFA A rv) : OP A cs_L_hang (F_X7_hang (A.1 0 0) v1 v2 (z, hv A iv rv ov)) (F_X8_hang (A.1 20 0) v1 v2) := by
  have hM := h.1
  have hA := hM.1
  obtain ⟨⟨t0, -⟩, -⟩ := id h.2.1
  obtain ⟨-, -, -, -, -, -, c1, c2, c3, c4⟩ := id h.2.2.1
  have mbad : ∀ (z1 : Nat) (x : Int32) (k : Nat), (x = 0 ∧ k = 1) ∨ (x = 1 ∧ k = 2) → F_X8_hang_b48 (A.1 20 0) x (z1, hv A iv rv ov) = rtv 0 (z1, hv A (u3 iv 20 0 0 (nI k)) rv ov) := by
    intro z1 x k hk
    unfold F_X8_hang_b48 F_X8_hang_b58
    rcases hk with ⟨rfl, rfl⟩ | ⟨rfl, rfl⟩
    · rw [if_pos rfl, mO hM, ref1 hM, bnd_v]
      rfl
    · rw [if_neg (by decide), mO hM, ref2 hM, bnd_v]
      rfl
  by_cases hx : ∃ j, j < 4 ∧ v1 = nI j
  · obtain ⟨r, hr, rfl⟩ := hx
    by_cases hy : ∃ j, j < nl ∧ v2 = nI j
    · have hy' := hy
      obtain ⟨l, hl, rfl⟩ := hy
      have mHead : ∀ (z1 : Nat) iv' rv' (ov' : Nat → Int64), MD A rv' → iv' 20 0 10 = nI nl → F_X8_hang (A.1 20 0) (nI r) (nI l) (z1, hv A iv' rv' ov') = F_X8_hang_b26 (A.1 20 0) (nI r) (nI l) 1 (z1, hv A iv' rv' ov') := by
        intro z1 iv' rv' ov' hM' h10
        unfold F_X8_hang
        rw [isRoom_in hr, bnd_v, if_neg (by decide), mI10 hM', h10, (is_ix (by omega)).1 hy', bnd_v, if_neg (by decide)]
      have cHead : ∀ K : Nat → Nat → hpT → Rs Int32, isO (z, hv A iv rv ov) (A.1 0 0) 7 (bnd (F_X7_roomAt (A.1 0 0) (nI r) (z, hv A iv rv ov)) fun a21 h21 => isO h21 (A.1 0 0) 7 (bnd (F_X7_lotAt (A.1 0 0) (nI l) h21) fun a22 h22 => K a21 a22 h22)) = K (A.1 12 r) (A.1 11 l) (z, hv A iv rv ov) := by
        intro K
        rw [isO_hv hA t0 (by rfl) (by decide), roomAt_in h hr, bnd_v, isO_hv hA t0 (by rfl) (by decide), lotAt_in h hl, bnd_v]
      obtain ⟨g1, g2, g3, g4, g5, g6, g7, n, g8, g9, g10, g11, g12, g13, g14⟩ := h.2.2.2.2.2.2 r hr
      rcases g14 with ⟨b1, b2⟩ | ⟨l', b1, b2, o, ph, L, R, kk, q, q1, q2, -⟩
      · by_cases hn : n = 0
        · subst hn
          refine op_ref (z := z) (ov := ov) (k := 2) (b := 0) h hF ?_ (fun _ => wc2 (by decide)) (by decide) (fun z1 => ?_)
          · refine (cHead _).trans ?_
            rw [isO_hv hA g1 (by rfl) (by decide), cHung_n hA g1 b1, bnd_v, if_pos rfl, gfI_hv hA g1 (by rfl) (by decide) (by rfl), g9, if_pos (by rfl)]
          · rw [mHead z1 iv rv ov hM c2]
            unfold F_X8_hang_b26
            rw [if_neg (by decide), mO hM, mHung_n hM hr b2, bnd_v, if_pos rfl, mR15 hM, nn_s, mA15 hM hr, g10, if_pos (by rfl)]
            exact mbad z1 1 2 (Or.inr ⟨rfl, rfl⟩)
        · obtain ⟨q, L, R, m, hq, l10, hC, hL, h30, hR1⟩ := lot_of h hl
          obtain ⟨a1, a2, a3, a4, a5, a6, a7, a8, a9, a10, a11⟩ := id hC
          have hW : RW A rv r n := ⟨g1, g2, g3, g4, g5, g6, g7, g8, g11, fun w hw => by
            obtain ⟨d, hh, w1, w2, w3, w4, -⟩ := g13 w hw
            exact ⟨w2, w3, w4⟩⟩
          have hD : DH iv r n (dN iv r) (hN iv r) := fun w hw => by
            obtain ⟨y1, y2, y3, y4, y5, y6, y7, y8⟩ := wrel_of (g13 w hw)
            exact ⟨y1, y3, y6, y8⟩
          have hMD : MDH iv r n (dN iv r) (hN iv r) := ⟨hr, g8, g10, fun w hw => by
            obtain ⟨y1, y2, y3, y4, y5, y6, y7, y8⟩ := wrel_of (g13 w hw)
            exact ⟨y2, y4, y6, y8⟩⟩
          obtain ⟨ivb, B1, B2⟩ := best8 (z := z) (ov := ov) (R := R) (L := L) (m := m) (q := q) (l := l) hA hW R 0 1000 (by omega) (by omega) iv (-1) 21 hD hC
          have cBest : F_X5_bestPhase (A.1 12 r) (A.1 11 l) (z, hv A iv rv ov) = rtv (bst (rn L R m (dN iv r) (hN iv r) n) R 0 (-1) 21) (z, hv A ivb rv ov) := B1
          have mMid : ∀ (z1 : Nat) iv' rv' (ov' : Nat → Int64), MD A rv' → iv' 20 0 10 = nI nl → iv' 35 0 r = -1 → iv' 32 0 r = nI n → F_X8_hang (A.1 20 0) (nI r) (nI l) (z1, hv A iv' rv' ov') = F_X8_hang_b74 1000 (A.1 20 0) (nI r) (nI l) (-1) 21 (nI 0) (z1, hv A iv' rv' ov') := by
            intro z1 iv' rv' ov' hM' h10 h35 h32
            rw [mHead z1 iv' rv' ov' hM' h10]
            unfold F_X8_hang_b26
            rw [if_neg (by decide), mO hM', mHung_n hM' hr h35, bnd_v, if_pos rfl, mR15 hM', nn_s, mA15 hM' hr, h32, if_neg (nI_ne0 (by omega) (by omega))]
            rfl
          rcases bst_ok (run := rn L R m (dN iv r) (hN iv r) n) R 0 (-1) 21 with hbst | ⟨p0, n0, -, hp0, hbst, hrn⟩
          · -- no phase will do
            have M1 := mbest74 (r := r) (l := l) (L := L) (R := R) (m := m) (n := n) (D := dN iv r) (H := hN iv r) hM a9 a10 a11 R 0 1000 (by omega) (by omega) ivb (-1) 21 ⟨hr, g8, (B2.at (by decide)).trans g10, fun w hw => by rw [B2.at (by decide), B2.at (by decide)]; exact hMD.2.2.2 w hw⟩ (hL.to (fun T j hT => B2.at (by omega))) ((B2.at (by decide)).trans h30)
            obtain ⟨ivd, M1, M2⟩ := M1
            refine fin_ex (E := "java/lang/IllegalStateException") (A := A) (iv1 := ivb) (iv2 := u3 ivd 20 0 0 2) (rv := rv) (ov := ov) (z := z) (np := np) (nr := nr) (nl := nl) (k := 2) (b := 0) ?_ (fun _ => wc2 (by decide)) (fun z1 => ?_) (by decide) u3_s hF rfl rfl rfl ?_
            · refine (cHead _).trans ?_
              rw [isO_hv hA g1 (by rfl) (by decide), cHung_n hA g1 b1, bnd_v, if_pos rfl, gfI_hv hA g1 (by rfl) (by decide) (by rfl), g9, if_neg (nI_ne0 (by omega) (by omega)), isO_hv hA g1 (by rfl) (by decide), cBest, bnd_v, hbst, if_pos rfl]
            · rw [mMid z1 ivb rv ov hM ((B2.at (by decide)).trans c2) ((B2.at (by decide)).trans b2) ((B2.at (by decide)).trans g10), M1, hbst, if_pos rfl]
              unfold F_X8_hang_b134
              rw [mO hM, ref2 hM, bnd_v, if_neg (by decide)]
            · refine h.scr hr ⟨b1, b2⟩ (fun T i j x1 x2 x3 x4 x5 x6 => ?_) (fun j x1 x2 x3 x4 => ?_)
              · rw [u3_T x4, M2 T i j (fun q => x4 q.1) x5 x6, B2 T i j x1 x2 x3]
              · rw [u3_n (by omega), M2 _ _ _ (by omega) (by decide) (by omega), B2.at (by decide)]
          · -- the phase p0
            have hp0' : p0 < R := by omega
            obtain ⟨⟨s', C'⟩, hws, hs1⟩ : ∃ sc, wls L R p0 m (dN iv r) (hN iv r) n 0 (0, fun _ => 0) (fun _ _ => (0, 0)) = some sc ∧ sc.1.1 = n0 := by
              unfold rn at hrn
              cases hw : wls L R p0 m (dN iv r) (hN iv r) n 0 (0, fun _ => 0) (fun _ _ => (0, 0)) with
              | none => rw [hw] at hrn; cases hrn
              | some sc => rw [hw] at hrn; exact ⟨sc, rfl, Option.some.inj hrn⟩
            have hS0 : SOK L R p0 m (0, fun _ => 0) := ⟨Nat.zero_le _, a9, a10, a11, hp0', fun k hk => absurd hk (Nat.not_lt_zero k)⟩
            obtain ⟨W1, -, W2⟩ := wls_ok _ _ _ _ _ _ hS0 hws
            have Db : DH ivb r n (dN iv r) (hN iv r) := hD.to (fun w j _ => B2.at (by decide))
            have Cb : CLT A ivb rv l q L R m := hC.to (fun _ => B2.at (by decide)) (B2.at (by decide))
            obtain ⟨y1, y2, y3, y4, y5, y6, y7, y8, y9, y10, y11⟩ := id Cb
            obtain ⟨-, T2⟩ := cutall_spec (z := z) (ov := ov) (p := p0) (fun _ _ => (0, 0)) hA hW Db y1 y2 y3 y4 y5 y6 y7 y8 y9 y10 y11 hp0'
            obtain ⟨ivc, E1, E2, E3, E4⟩ := T2 s' C' hws
            have F2 : CFR r iv ivc := B2.trans E2
            have hM1 : MD A (u3 rv 12 r 3 (some (11, l))) := hM.rvto (fun j => u3_T (by decide))
            have s20 : s'.1 ≤ m := W1.1
            -- the class's last heap
            have f1 : ∀ T i j, T ≠ 11 → T ≠ 12 → T ≠ 14 → T ≠ 15 → T ≠ 17 → u3 (u3 ivc 11 l 4 (nI (m - s'.1))) 12 r 4 (nI l) T i j = iv T i j := fun T i j x1 x2 x3 x4 x5 => by rw [u3_T x2, u3_T x1, F2.at ⟨x3, x4, x5⟩]
            have L1 : MLT (u3 (u3 ivc 11 l 4 (nI (m - s'.1))) 12 r 4 (nI l)) l L R := hL.to (fun T j hT => f1 _ _ _ (by omega) (by omega) (by omega) (by omega) (by omega))
            have D1 : MDH (u3 (u3 ivc 11 l 4 (nI (m - s'.1))) 12 r 4 (nI l)) r n (dN iv r) (hN iv r) := ⟨hr, g8, (f1 _ _ _ (by decide) (by decide) (by decide) (by decide) (by decide)).trans g10, fun w hw => by
              rw [f1 _ _ _ (by decide) (by decide) (by decide) (by decide) (by decide), f1 _ _ _ (by decide) (by decide) (by decide) (by decide) (by decide)]
              exact hMD.2.2.2 w hw⟩
            obtain ⟨ivd, M1, M2⟩ := mbest74 (r := r) (l := l) (L := L) (R := R) (m := m) (n := n) (D := dN iv r) (H := hN iv r) hM1 a9 a10 a11 R 0 1000 (by omega) (by omega) _ (-1) 21 D1 L1 ((f1 _ _ _ (by decide) (by decide) (by decide) (by decide) (by decide)).trans h30)
            -- after the refusal's word 0
            have f2 : ∀ T i j, T ≠ 20 → T ≠ 39 → T ≠ 40 → T ≠ 41 → u3 ivd 20 0 0 0 T i j = u3 (u3 ivc 11 l 4 (nI (m - s'.1))) 12 r 4 (nI l) T i j := fun T i j x1 x2 x3 x4 => by rw [u3_T x1, M2.at ⟨x1, x2, x3, x4⟩]
            have L2 : MLT (u3 ivd 20 0 0 0) l L R := L1.to (fun T j hT => f2 _ _ _ (by omega) (by omega) (by omega) (by omega))
            have D2 : MDH (u3 ivd 20 0 0 0) r n (dN iv r) (hN iv r) := ⟨hr, g8, (f2 _ _ _ (by decide) (by decide) (by decide) (by decide)).trans D1.2.2.1, fun w hw => by
              rw [f2 _ _ _ (by decide) (by decide) (by decide) (by decide), f2 _ _ _ (by decide) (by decide) (by decide) (by decide)]
              exact D1.2.2.2 w hw⟩
            have h30d : u3 ivd 20 0 0 0 30 0 l = nI m := (f2 _ _ _ (by decide) (by decide) (by decide) (by decide)).trans ((f1 _ _ _ (by decide) (by decide) (by decide) (by decide) (by decide)).trans h30)
            obtain ⟨-, T3⟩ := mcut_spec (b := true) (p := p0) (fun _ _ => (0, 0)) hM1 D2 L2 h30d a9 a10 a11 hp0'
            obtain ⟨ive, G1, G2, G3, G4⟩ := T3 s' C' hws
            have G4 := G4 rfl
            have G1' : ∀ z ov, F_X8_cutAll (A.1 20 0) (nI r) (nI l) (nI p0) 1 (z, hv A (u3 ivd 20 0 0 0) (u3 rv 12 r 3 (some (11, l))) ov) = rtv (nI s'.1) (z, hv A ive (u3 rv 12 r 3 (some (11, l))) ov) := G1
            have h23 : u3 (u3 ive 35 0 r (nI l)) 36 0 r (nI p0) 20 0 23 = nI s'.1 := by rw [u3_T (by decide), u3_T (by decide)]; exact G3.1
            obtain ⟨ivf, K1, K2, K3, K4⟩ := keep_spec (r := r) (c := s'.1) hM1 hr (by omega) h23
            refine fin_ok (x := nI s'.1) (A := A) (iv1 := u3 (u3 ivc 11 l 4 (nI (m - s'.1))) 12 r 4 (nI l)) (iv2 := u3 ivf 30 0 l (nI (m - s'.1))) (rv := u3 rv 12 r 3 (some (11, l))) (ov := ov) (z := z) (np := np) (nr := nr) (nl := nl) ?_ (fun z1 ov' => ?_) ?_ (hF.ref a1) rfl rfl rfl ?_
            · refine (cHead _).trans ?_
              rw [isO_hv hA g1 (by rfl) (by decide), cHung_n hA g1 b1, bnd_v, if_pos rfl, gfI_hv hA g1 (by rfl) (by decide) (by rfl), g9, if_neg (nI_ne0 (by omega) (by omega)), isO_hv hA g1 (by rfl) (by decide), cBest, bnd_v, hbst, if_neg (nI_m1 (by omega)), isO_hv hA g1 (by rfl) (by decide)]
              unfold F_X5_hangFrom
              rw [isO_hv hA g1 (by rfl) (by decide), E1, bnd_v, gfI_hv hA a1 (by rfl) (by decide) (by rfl), F2.at (by decide), a6, gfR_hv hA g1 (by rfl) (by decide) (by rfl), g6, rfv_s, nn_s, gfI_hv hA g3 (by rfl) (by decide) (by rfl), E3.2.2.2.1, pk_sub s20, pf_hv hA a1 (by rfl) (by decide) (by rfl), pfR_hv hA g1 (by rfl) (by decide) (by rfl), pf_hv hA g1 (by rfl) (by decide) (by rfl), gfR_hv hA g1 (by rfl) (by decide) (by rfl), u3_n (by omega), g6, rfv_s, nn_s, gfI_hv hA g3 (by rfl) (by decide) (by rfl), u3_T (by decide), u3_T (by decide), E3.2.2.2.1, bnd_v]
            · rw [mMid z1 _ _ ov' hM1 ((f1 _ _ _ (by decide) (by decide) (by decide) (by decide) (by decide)).trans c2) ((f1 _ _ _ (by decide) (by decide) (by decide) (by decide) (by decide)).trans b2) ((f1 _ _ _ (by decide) (by decide) (by decide) (by decide) (by decide)).trans g10), M1, hbst, if_neg (nI_m1 (by omega))]
              unfold F_X8_hang_b134
              rw [mO hM1, ref0 hM1, bnd_v, if_pos rfl, mO hM1, G1', bnd_v, mR18 hM1, nn_s, mS18 hM1 hr, mR19 hM1, nn_s, mS19 hM1 hr, mO hM1, K1, bnd_v, mR13 hM1, nn_s, mA13 hM1 l10, mR20 hM1, nn_s, mA20 hM1 hr, K2, K3 _ _ _ (by omega) (by omega), u3_T (by decide), u3_T (by decide), G2.at (by decide), h30d, pk_sub s20, mS13 hM1 l10, mR20 hM1, nn_s, mA20 hM1 hr, u3_T (by decide), K2]
            · rw [u3_T (by decide), K3 _ _ _ (by omega) (by omega), u3_T (by decide), u3_T (by decide), G2 _ _ _ (by omega) (by decide) (by omega), u3_s]
            · have q1 : ∀ T i j, T ≠ 30 → T ≠ 35 → T ≠ 36 → T ≠ 37 → T ≠ 38 → u3 ivf 30 0 l (nI (m - s'.1)) T i j = ive T i j := fun T i j x1 x2 x3 x4 x5 => by rw [u3_T x1, K3 _ _ _ (fun q => x4 q.1) (fun q => x5 q.1), u3_T x3, u3_T x2]
              have q2 : ∀ T i j, T ≠ 20 → T ≠ 39 → T ≠ 40 → T ≠ 41 → ive T i j = u3 (u3 ivc 11 l 4 (nI (m - s'.1))) 12 r 4 (nI l) T i j := fun T i j x1 x2 x3 x4 => by rw [G2.at ⟨x1, x2, x3, x4⟩, f2 _ _ _ x1 x2 x3 x4]
              have e : ∀ T i j, T ≠ 11 ∧ T ≠ 12 ∧ T ≠ 14 ∧ T ≠ 15 ∧ T ≠ 17 ∧ T ≠ 20 ∧ T ≠ 30 ∧ T ≠ 35 ∧ T ≠ 36 ∧ T ≠ 37 ∧ T ≠ 38 ∧ T ≠ 39 ∧ T ≠ 40 ∧ T ≠ 41 → u3 ivf 30 0 l (nI (m - s'.1)) T i j = iv T i j := by
                rintro T i j ⟨x1, x2, x3, x4, x5, x6, x7, x8, x9, x10, x11, x12, x13, x14⟩
                rw [q1 _ _ _ x7 x8 x9 x10 x11, q2 _ _ _ x6 x12 x13 x14, f1 _ _ _ x1 x2 x3 x4 x5]
              have e11 : ∀ i j, i ≠ l ∨ j ≠ 4 → u3 ivf 30 0 l (nI (m - s'.1)) 11 i j = iv 11 i j := by
                intro i j hi
                rw [q1 _ _ _ (by decide) (by decide) (by decide) (by decide) (by decide), q2 _ _ _ (by decide) (by decide) (by decide) (by decide), u3_T (by decide), u3_n (by omega), F2.at (by decide)]
              have e114 : u3 ivf 30 0 l (nI (m - s'.1)) 11 l 4 = nI (m - s'.1) := by
                rw [q1 _ _ _ (by decide) (by decide) (by decide) (by decide) (by decide), q2 _ _ _ (by decide) (by decide) (by decide) (by decide), u3_T (by decide), u3_s]
              have e12 : ∀ i j, i ≠ r ∨ j ≠ 4 → u3 ivf 30 0 l (nI (m - s'.1)) 12 i j = iv 12 i j := by
                intro i j hi
                rw [q1 _ _ _ (by decide) (by decide) (by decide) (by decide) (by decide), q2 _ _ _ (by decide) (by decide) (by decide) (by decide), u3_n (by omega), u3_T (by decide), F2.at (by decide)]
              have e124 : u3 ivf 30 0 l (nI (m - s'.1)) 12 r 4 = nI l := by
                rw [q1 _ _ _ (by decide) (by decide) (by decide) (by decide) (by decide), q2 _ _ _ (by decide) (by decide) (by decide) (by decide), u3_s]
              have ec : ∀ T i j, T = 14 ∨ T = 15 ∨ T = 17 → u3 ivf 30 0 l (nI (m - s'.1)) T i j = ivc T i j := by
                intro T i j hT
                rw [q1 _ _ _ (by omega) (by omega) (by omega) (by omega) (by omega), q2 _ _ _ (by omega) (by omega) (by omega) (by omega), u3_T (by omega), u3_T (by omega)]
              have e20 : ∀ j, j ≠ 0 → j ≠ 23 → j ≠ 24 → j ≠ 25 → u3 ivf 30 0 l (nI (m - s'.1)) 20 0 j = iv 20 0 j := by
                intro j x1 x2 x3 x4
                rw [q1 _ _ _ (by decide) (by decide) (by decide) (by decide) (by decide), G2 _ _ _ (by omega) (by decide) (by omega), u3_n (by omega), M2 _ _ _ (by omega) (by decide) (by omega), f1 _ _ _ (by decide) (by decide) (by decide) (by decide) (by decide)]
              have e30 : ∀ i, i ≠ l → u3 ivf 30 0 l (nI (m - s'.1)) 30 0 i = iv 30 0 i := by
                intro i hi
                rw [u3_n (by omega), K3 _ _ _ (by omega) (by omega), u3_T (by decide), u3_T (by decide), q2 _ _ _ (by decide) (by decide) (by decide) (by decide), f1 _ _ _ (by decide) (by decide) (by decide) (by decide) (by decide)]
              have e30l : u3 ivf 30 0 l (nI (m - s'.1)) 30 0 l = nI (m - s'.1) := u3_s
              have e35 : ∀ i, i ≠ r → u3 ivf 30 0 l (nI (m - s'.1)) 35 0 i = iv 35 0 i ∧ u3 ivf 30 0 l (nI (m - s'.1)) 36 0 i = iv 36 0 i ∧ u3 ivf 30 0 l (nI (m - s'.1)) 37 0 i = iv 37 0 i := by
                intro i hi
                rw [u3_T (by decide), u3_T (by decide), u3_T (by decide), K3 _ _ _ (by omega) (by omega), K3 _ _ _ (by omega) (by omega), K3 _ _ _ (by omega) (by omega), u3_T (by decide), u3_n (by omega), u3_n (by omega), u3_T (by decide), u3_T (by decide), u3_T (by decide), q2 _ _ _ (by decide) (by decide) (by decide) (by decide), q2 _ _ _ (by decide) (by decide) (by decide) (by decide), q2 _ _ _ (by decide) (by decide) (by decide) (by decide), f1 _ _ _ (by decide) (by decide) (by decide) (by decide) (by decide), f1 _ _ _ (by decide) (by decide) (by decide) (by decide) (by decide), f1 _ _ _ (by decide) (by decide) (by decide) (by decide) (by decide)]
                exact ⟨rfl, rfl, rfl⟩
              have e35r : u3 ivf 30 0 l (nI (m - s'.1)) 35 0 r = nI l := by rw [u3_T (by decide), K3 _ _ _ (by omega) (by omega), u3_T (by decide), u3_s]
              have e36r : u3 ivf 30 0 l (nI (m - s'.1)) 36 0 r = nI p0 := by rw [u3_T (by decide), K3 _ _ _ (by omega) (by omega), u3_s]
              have e37r : u3 ivf 30 0 l (nI (m - s'.1)) 37 0 r = nI s'.1 := by rw [u3_T (by decide), K2]
              have e38 : ∀ j, j < 20 * r ∨ 20 * r + 20 ≤ j → u3 ivf 30 0 l (nI (m - s'.1)) 38 0 j = iv 38 0 j := by
                intro j hj
                rw [u3_T (by decide), K3 _ _ _ (by omega) (by omega), u3_T (by decide), u3_T (by decide), q2 _ _ _ (by decide) (by decide) (by decide) (by decide), f1 _ _ _ (by decide) (by decide) (by decide) (by decide) (by decide)]
              have e38r : ∀ k, k < s'.1 → u3 ivf 30 0 l (nI (m - s'.1)) 38 0 (20 * r + k) = nI (s'.2 k) := by
                intro k hk
                rw [u3_T (by decide), K4 k hk, u3_T (by decide), u3_T (by decide)]
                exact G3.2 k hk
              have e40 : ∀ T j, T = 40 ∨ T = 41 → j < 96 * r ∨ 96 * r + 96 ≤ j → u3 ivf 30 0 l (nI (m - s'.1)) T 0 j = iv T 0 j := by
                intro T j hT hj
                rw [q1 _ _ _ (by omega) (by omega) (by omega) (by omega) (by omega), G2 _ _ _ (by omega) (by omega) (by omega), u3_T (by omega), M2 _ _ _ (by omega) (by omega) (by omega), f1 _ _ _ (by omega) (by omega) (by omega) (by omega) (by omega)]
              have e40r : ∀ w j, w < n → j < dN iv r w → u3 ivf 30 0 l (nI (m - s'.1)) 40 0 (24 * (4 * r + w) + j) = nI (C' w j).1 ∧ u3 ivf 30 0 l (nI (m - s'.1)) 41 0 (24 * (4 * r + w) + j) = nI (C' w j).2 := by
                intro w j hw hj
                rw [q1 _ _ _ (by decide) (by decide) (by decide) (by decide) (by decide), q1 _ _ _ (by decide) (by decide) (by decide) (by decide) (by decide)]
                exact G4 w j hw hj
              have er : ∀ T i j, T ≠ 12 ∨ i ≠ r ∨ j ≠ 3 → u3 rv 12 r 3 (some (11, l)) T i j = rv T i j := fun T i j q => u3_n (by omega)
              generalize u3 ivf 30 0 l (nI (m - s'.1)) = iv2 at e e11 e114 e12 e124 ec e20 e30 e30l e35 e35r e36r e37r e38 e38r e40 e40r ⊢
              obtain ⟨f1', f2', f3, f4, f5, f6, f7⟩ := h
              refine ⟨hM1, f2'.rvto (fun T j hT => er _ _ _ (by omega)), f3.to (fun j => e _ _ _ (by decide)) (e20 1 (by decide) (by decide) (by decide) (by decide)) (e20 6 (by decide) (by decide) (by decide) (by decide)) (e20 10 (by decide) (by decide) (by decide) (by decide)) (e20 28 (by decide) (by decide) (by decide) (by decide)) (fun k _ => e _ _ _ (by decide)), fun i hi => (f4 i hi).to (fun _ _ q => q) (er _ _ _ (by omega)) (er _ _ _ (by omega)) ?_ ?_ ?_ ?_ ?_ ?_ ?_, fun i hi => (f5 i hi).to (Nat.le_refl _) (fun _ _ q => q) (er _ _ _ (by omega)) (er _ _ _ (by omega)) ?_ ?_ ?_ ?_ ?_ ?_ ?_ ?_ ?_ ?_, fun i hi => ?_, fun r' hr' => ?_⟩
              rotate_left 17
              · obtain ⟨lq, lk, lL, p1, p2, p3, p4, p5, p6, p7, p8, p9, p10, p11, p12, p13, p14⟩ := f6 i hi
                by_cases hil : i = l
                · subst hil
                  exact ⟨lq, m - s'.1, lL, p1, p2, p3, (er _ _ _ (by omega)).trans p4, (e11 _ _ (Or.inr (by decide))).trans p5, (e _ _ _ (by decide)).trans p6, by rw [e _ _ _ (by decide), e11 _ _ (Or.inr (by decide)), p7], e114, e30l, by omega, (e11 _ _ (Or.inr (by decide))).trans p11, (e _ _ _ (by decide)).trans p12, p13, p14⟩
                · exact (f6 i hi).to (Nat.le_refl _) (fun _ _ q => q) (er _ _ _ (by omega)) (fun j => e11 _ _ (Or.inl hil)) (e _ _ _ (by decide)) (e _ _ _ (by decide)) (e30 i hil) (e _ _ _ (by decide))
              · by_cases hrr : r' = r
                · subst hrr
                  refine ⟨g1, g2, g3, g4, (er _ _ _ (by omega)).trans g5, (er _ _ _ (by omega)).trans g6, (er _ _ _ (by omega)).trans g7, n, g8, (e12 _ _ (Or.inr (by decide))).trans g9, (e _ _ _ (by decide)).trans g10, fun w hw => (er _ _ _ (by omega)).trans (g11 w hw), g12, fun w hw => (g13 w hw).to (fun _ _ q => q) (er _ _ _ (by omega)) (fun _ => e _ _ _ (by decide)) (e _ _ _ (by decide)) (e _ _ _ (by decide)), Or.inr ⟨l, hl, u3_s, s'.1, p0, L, R, m - s'.1, q, e124, e35r, (ec _ _ _ (by omega)).trans E3.2.2.2.1, e37r, e114, by omega, (ec _ _ _ (by omega)).trans E3.2.2.2.2.2.2.2.1, e36r, (ec _ _ _ (by omega)).trans E3.2.2.2.2.2.1, (e11 _ _ (Or.inr (by decide))).trans a7, a10, (ec _ _ _ (by omega)).trans E3.2.2.2.2.2.2.1, (er _ _ _ (by omega)).trans a4, (e _ _ _ (by decide)).trans a8, a11, hp0', fun k hk => ⟨s'.2 k, (ec _ _ _ (by omega)).trans (E3.2.2.2.2.2.2.2.2.1 k hk), e38r k hk, W1.2.2.2.2.2 k hk⟩, ?_⟩⟩
                  intro w D d hw hDw hD24 hd
                  obtain ⟨y1, y2, y3, y4, y5, y6, y7, y8⟩ := wrel_of (g13 w hw)
                  have hDe : D = dN iv r' w := nI_inj (by omega) (by omega) (hDw.symm.trans ((e _ _ _ (by decide)).trans y1))
                  subst hDe
                  obtain ⟨u1, u2, u3'⟩ := W2 w d (Nat.zero_le _) (by omega) hd
                  exact ⟨(C' w d).1, (C' w d).2, u1, by omega, u3', (ec _ _ _ (by omega)).trans (E4 w d hw hd), (e40r w d hw hd).1, (e40r w d hw hd).2⟩
                · refine (f7 r' hr').to (Nat.le_refl _) (fun _ _ q => q) (fun _ _ q => q) (fun _ => er _ _ _ (by omega)) (er _ _ _ (by omega)) (fun _ _ => er _ _ _ (by omega)) (fun _ _ => er _ _ _ (by omega)) (fun _ _ => er _ _ _ (by omega)) (fun j => e12 _ _ (Or.inl hrr)) (fun j => (ec _ _ _ (by omega)).trans (F2 _ _ _ (by omega) (by omega) (by omega))) (fun j => (ec _ _ _ (by omega)).trans (F2 _ _ _ (by omega) (by omega) (by omega))) ?_ (fun w j hw => (ec _ _ _ (by omega)).trans (F2 _ _ _ (by omega) (by omega) (by omega))) ?_ ?_ ?_ (e35 r' hrr).1 (e35 r' hrr).2.1 (e35 r' hrr).2.2 (fun k hk => e38 _ (by omega)) (fun w d hw hd => e40 _ _ (Or.inl rfl) (by omega)) (fun w d hw hd => e40 _ _ (Or.inr rfl) (by omega)) (fun l2 hl2 => e11 _ _ (Or.inr (by decide))) (fun l2 k hl2 hk => ?_) ?_
                  rotate_left 4
                  · by_cases hl2l : l2 = l
                    · subst hl2l
                      have hkm : m ≤ k := by
                        by_cases hk31 : k < 2 ^ 31
                        · have := nI_inj (a := k) (b := m) hk31 (by omega) (hk.symm.trans a6)
                          omega
                        · omega
                      exact ⟨m - s'.1, by omega, e114⟩
                    · exact ⟨k, Nat.le_refl _, (e11 _ _ (Or.inl hl2l)).trans hk⟩
                  all_goals intros
                  all_goals exact e _ _ _ (by decide)
              all_goals intros
              all_goals exact e _ _ _ (by decide)
      · refine op_ref (z := z) (ov := ov) (k := 2) (b := 0) h hF ?_ (fun _ => wc2 (by decide)) (by decide) (fun z1 => ?_)
        · refine (cHead _).trans ?_
          rw [isO_hv hA g1 (by rfl) (by decide), cHung_s hA g1 b2, bnd_v, if_neg (by decide)]
        · have l10 : l' < 10 := by omega
          rw [mHead z1 iv rv ov hM c2]
          unfold F_X8_hang_b26
          rw [if_neg (by decide), mO hM, mHung_s hM hr l10 q2, bnd_v, if_neg (by decide)]
          exact mbad z1 1 2 (Or.inr ⟨rfl, rfl⟩)
    · refine op_ref (z := z) (ov := ov) (k := 1) (b := 0) h hF ?_ (fun _ => wc1) (by decide) (fun z1 => ?_)
      · unfold F_X7_hang
        rw [isO_hv hA t0 (by rfl) (by decide), roomAt_in h hr, bnd_v, isO_hv hA t0 (by rfl) (by decide), lotAt_out h hy, bnd_t]
      · unfold F_X8_hang F_X8_hang_b25 F_X8_hang_b26
        rw [isRoom_in hr, bnd_v, if_neg (by decide), mI10 hM, c2, (is_ix (by omega)).2 hy, bnd_v, if_pos rfl, if_pos rfl]
        exact mbad z1 0 1 (Or.inl ⟨rfl, rfl⟩)
  · refine op_ref (z := z) (ov := ov) (k := 1) (b := 0) h hF ?_ (fun _ => wc1) (by decide) (fun z1 => ?_)
    · unfold F_X7_hang
      rw [isO_hv hA t0 (by rfl) (by decide), roomAt_out h hx, bnd_t]
    · unfold F_X8_hang F_X8_hang_b25 F_X8_hang_b26
      rw [isRoom_out hx, bnd_v, if_pos rfl, if_pos rfl]
      exact mbad z1 0 1 (Or.inl ⟨rfl, rfl⟩)
end HA
