/-! strip -/
section ST
variable {A : Adr} {iv : IVt} {rv : RVt} {ov : Nat → Int64} {z np nr nl : Nat}
theorem RFA.nul {T i j : Nat} (h : RFA A rv) : RFA A (u3 rv T i j none) := by
  intro a b c q h1 h2
  by_cases w : a = T ∧ b = i ∧ c = j
  · rw [w.1, w.2.1, w.2.2, u3_s] at h2
    cases h2
  · rw [u3_n w] at h2
    exact h a b c q h1 h2
theorem RFA.ref {T i j T' i' : Nat} (h : RFA A rv) (hl : A.2.2 T' i' = true) : RFA A (u3 rv T i j (some (T', i'))) := by
  intro a b c q h1 h2
  by_cases w : a = T ∧ b = i ∧ c = j
  · rw [w.1, w.2.1, w.2.2, u3_s] at h2
    cases h2
    exact hl
  · rw [u3_n w] at h2
    exact h a b c q h1 h2
/-- the class's loss: o rolls of the lot l -/
theorem lose_spec {l : Nat} {x : Int32} (hA : IN A) (t0 : A.2.2 0 0 = true) (hl : A.2.2 11 l = true) : F_X7_lose (A.1 0 0) (A.1 11 l) x (z, hv A iv rv ov) = rtv () (z, hv A (u3 iv 0 0 7 (iv 0 0 7 + x * iv 11 l 3)) rv ov) := by
  unfold F_X7_lose
  rw [gfI_hv hA t0 (by rfl) (by decide) (by rfl), gfI_hv hA hl (by rfl) (by decide) (by rfl), pf_hv hA t0 (by rfl) (by decide) (by rfl)]
theorem bare_spec {r : Nat} (hA : IN A) (h12 : A.2.2 12 r = true) : F_X5_makeBare (A.1 12 r) (z, hv A iv rv ov) = rtv () (z, hv A iv (u3 rv 12 r 3 none) ov) := by
  unfold F_X5_makeBare
  rw [pfN_hv hA h12 (by rfl) (by decide) (by rfl)]
/-- the reference's loss -/
theorem mlose_spec {r l o L : Nat} (hM : MD A rv) (hr : r < 4) (hl : l < 10) (h37 : iv 37 0 r = nI o) (h35 : iv 35 0 r = nI l) (h31 : iv 31 0 l = nI L) : F_X8_lose (A.1 20 0) (nI r) (z, hv A iv rv ov) = rtv () (z, hv A (u3 (u3 iv 20 0 28 (iv 20 0 28 + nI o * nI L)) 35 0 r (-1)) rv ov) := by
  unfold F_X8_lose
  rw [mI28 hM, mR20 hM, nn_s, mA20 hM hr, h37, mR14 hM, mR18 hM, nn_s, mA18 hM hr, h35, nn_s, mA14 hM hl, h31, mP28 hM, mR18 hM, nn_s, mS18 hM hr]
/-- a room made bare, and what was lost counted: the invariant afterwards, where only that and scratch differs -/
theorem INV.bared {iv2 : IVt} {r : Nat} (h : INV A iv rv np nr nl) (hr : r < 4) (he : ∀ T i j, T ≠ 0 → T ≠ 20 → T ≠ 35 → T ≠ 39 → iv2 T i j = iv T i j) (h0 : ∀ j, j ≠ 7 → iv2 0 0 j = iv 0 0 j) (h20 : ∀ j, j ≠ 0 → j ≠ 23 → j ≠ 24 → j ≠ 25 → j ≠ 28 → iv2 20 0 j = iv 20 0 j) (h28 : iv2 20 0 28 = iv2 0 0 7) (h35 : ∀ i, i ≠ r → iv2 35 0 i = iv 35 0 i) (h35r : iv2 35 0 r = -1) : INV A iv2 (u3 rv 12 r 3 none) np nr nl := by
  obtain ⟨g1, g2, g3, g4, g5, g6, g7⟩ := h
  obtain ⟨c1, c2, c3, c4, c5, c6, c7, c8, c9, c10, c11⟩ := g3
  have e : ∀ T i j, T ≠ 0 ∧ T ≠ 20 ∧ T ≠ 35 ∧ T ≠ 39 → iv2 T i j = iv T i j := fun T i j q => he T i j q.1 q.2.1 q.2.2.1 q.2.2.2
  have er : ∀ T i j, T ≠ 12 → u3 rv 12 r 3 none T i j = rv T i j := fun T i j q => u3_T q
  refine ⟨g1.rvto (fun j => er _ _ _ (by decide)), g2.rvto (fun T j hT => er _ _ _ (by omega)), ⟨(h0 1 (by decide)).trans c1, (h20 1 (by decide) (by decide) (by decide) (by decide) (by decide)).trans c2, c3, (h0 3 (by decide)).trans c4, (h20 6 (by decide) (by decide) (by decide) (by decide) (by decide)).trans c5, c6, (h0 5 (by decide)).trans c7, (h20 10 (by decide) (by decide) (by decide) (by decide) (by decide)).trans c8, c9, h28, fun k hk => (e _ _ _ (by decide)).trans (c11 k hk)⟩, fun i hi => (g4 i hi).to (fun _ _ q => q) (er _ _ _ (by decide)) (er _ _ _ (by decide)) ?_ ?_ ?_ ?_ ?_ ?_ ?_, fun i hi => (g5 i hi).to (Nat.le_refl _) (fun _ _ q => q) (er _ _ _ (by decide)) (er _ _ _ (by decide)) ?_ ?_ ?_ ?_ ?_ ?_ ?_ ?_ ?_ ?_, fun i hi => (g6 i hi).to (Nat.le_refl _) (fun _ _ q => q) (er _ _ _ (by decide)) ?_ ?_ ?_ ?_ ?_, fun r' hr' => ?_⟩
  rotate_left 22
  · by_cases hrr : r' = r
    · subst hrr
      obtain ⟨a1, a2, a3, a4, a5, a6, a7, n, a8, a9, a10, a11, a12, a13, a14⟩ := g7 r' hr'
      refine ⟨a1, a2, a3, a4, (u3_n (by omega)).trans a5, (u3_n (by omega)).trans a6, (er _ _ _ (by decide)).trans a7, n, a8, (e _ _ _ (by decide)).trans a9, (e _ _ _ (by decide)).trans a10, fun w hw => (er _ _ _ (by decide)).trans (a11 w hw), a12, fun w hw => (a13 w hw).to (fun _ _ q => q) (er _ _ _ (by decide)) (fun _ => e _ _ _ (by decide)) (e _ _ _ (by decide)) (e _ _ _ (by decide)), Or.inl ⟨u3_s, h35r⟩⟩
    · refine (g7 r' hr').to (Nat.le_refl _) (fun _ _ q => q) (fun _ _ q => q) (fun _ => u3_n (fun q => hrr q.2.1)) (er _ _ _ (by decide)) (fun _ _ => er _ _ _ (by decide)) (fun _ _ => er _ _ _ (by decide)) (fun _ _ => er _ _ _ (by decide)) ?_ ?_ ?_ ?_ ?_ ?_ ?_ ?_ (h35 r' hrr) ?_ ?_ ?_ ?_ ?_ ?_ (fun l k _ hk => ⟨k, Nat.le_refl _, (e _ _ _ (by decide)).trans hk⟩) ?_ <;> intros <;> exact e _ _ _ (by decide)
  all_goals intros
  all_goals exact e _ _ _ (by decide)
theorem sc11 {v1 : Int32} (h : INV A iv rv np nr nl) (hF : RFA A rv) : OP A cs_L_strip (F_X7_strip (A.1 0 0) v1 (z, hv A iv rv ov)) (F_X8_strip (A.1 20 0) v1) := by
  have hM := h.1
  have hA := hM.1
  obtain ⟨⟨t0, -⟩, -⟩ := id h.2.1
  obtain ⟨-, -, -, -, -, -, c1, c2, c3, c4⟩ := id h.2.2.1
  by_cases hx : ∃ j, j < 4 ∧ v1 = nI j
  · obtain ⟨r, hr, rfl⟩ := hx
    obtain ⟨g1, g2, g3, g4, g5, g6, g7, n, g8, g9, g10, g11, g12, g13, g14⟩ := h.2.2.2.2.2.2 r hr
    rcases g14 with ⟨b1, b2⟩ | ⟨l, b1, b2, o, ph, L, R, kk, q, q1, q2, q3, q4, q5, q6, q7, q8, q9, q10, q11, q12, q13, q14, q15, q16, q17, q18⟩
    · refine op_ref (z := z) (ov := ov) (k := 2) (b := 0) h hF ?_ (fun _ => wc2 (by decide)) (by decide) (fun z1 => ?_)
      · unfold F_X7_strip
        rw [isO_hv hA t0 (by rfl) (by decide), roomAt_in h hr, bnd_v, gfR_hv hA g1 (by rfl) (by decide) (by rfl), b1, rfv_n, nlc_n]
      · unfold F_X8_strip F_X8_strip_b27
        rw [isRoom_in hr, bnd_v, if_neg (by decide), mO hM, mHung_n hM hr b2, bnd_v, if_pos rfl, mO hM, ref2 hM, bnd_v, if_neg (by decide)]
    · obtain ⟨lq, lk, lL, p1, p2, p3, p4, p5, p6, p7, p8, p9, p10, p11, p12, p13, p14⟩ := h.2.2.2.2.2.1 l b1
      have e : nI lL = nI L := by rw [← p11, q10]
      rw [e] at p12
      have hM' : MD A (u3 rv 12 r 3 none) := hM.rvto (fun j => u3_T (by decide))
      refine fin_ok (x := nI o) (A := A) (iv1 := u3 iv 0 0 7 (iv 0 0 7 + nI o * nI L)) (iv2 := u3 (u3 (u3 (u3 iv 0 0 7 (iv 0 0 7 + nI o * nI L)) 20 0 0 0) 20 0 28 (iv 20 0 28 + nI o * nI L)) 35 0 r (-1)) (rv := u3 rv 12 r 3 none) (ov := ov) (z := z) (np := np) (nr := nr) (nl := nl) ?_ (fun z1 ov' => ?_) ?_ hF.nul rfl rfl rfl ?_
      · unfold F_X7_strip
        rw [isO_hv hA t0 (by rfl) (by decide), roomAt_in h hr, bnd_v, gfR_hv hA g1 (by rfl) (by decide) (by rfl), b2, rfv_s, nlc_s, gfR_hv hA g1 (by rfl) (by decide) (by rfl), g6, rfv_s, nn_s, gfI_hv hA g3 (by rfl) (by decide) (by rfl), q3, isO_hv hA t0 (by rfl) (by decide), lose_spec hA t0 p3, bnd_v, isO_hv hA g1 (by rfl) (by decide), bare_spec hA g1, bnd_v, q10]
      · unfold F_X8_strip F_X8_strip_b27
        have ml := mlose_spec (z := z1) (ov := ov') (iv := u3 (u3 iv 0 0 7 (iv 0 0 7 + nI o * nI L)) 20 0 0 0) (r := r) (l := l) (o := o) (L := L) hM' hr (by omega) (by rw [u3_T (by decide), u3_T (by decide), q4]) (by rw [u3_T (by decide), u3_T (by decide), q2]) (by rw [u3_T (by decide), u3_T (by decide), p12])
        rw [u3_n (by omega : ¬ (20 = 20 ∧ 0 = 0 ∧ 28 = 0)), u3_T (by decide : 20 ≠ 0)] at ml
        rw [isRoom_in hr, bnd_v, if_neg (by decide), mO hM', mHung_s hM' hr (show l < 10 by omega) (by rw [u3_T (by decide)]; exact q2), bnd_v, if_neg (by decide), mO hM', ref0 hM', bnd_v, if_pos rfl, mO hM', ml, bnd_v, mR20 hM', nn_s, mA20 hM' hr, u3_T (by decide), u3_T (by decide), u3_T (by decide), u3_T (by decide), q4]
      · rw [u3_T (by decide), u3_n (by omega), u3_s]
      · refine h.bared hr (fun T i j x1 x2 x3 x4 => by rw [u3_T x3, u3_T x2, u3_T x2, u3_T x1]) (fun j hj => by rw [u3_T (by decide), u3_T (by decide), u3_T (by decide), u3_n (by omega)]) (fun j x1 x2 x3 x4 x5 => by rw [u3_T (by decide), u3_n (by omega), u3_n (by omega), u3_T (by decide)]) (by rw [u3_T (by decide), u3_s, u3_T (by decide), u3_T (by decide), u3_T (by decide), u3_s, c4.1]) (fun i hi => by rw [u3_n (by omega), u3_T (by decide), u3_T (by decide), u3_T (by decide)]) u3_s
  · refine op_ref (z := z) (ov := ov) (k := 1) (b := 0) h hF ?_ (fun _ => wc1) (by decide) (fun z1 => ?_)
    · unfold F_X7_strip
      rw [isO_hv hA t0 (by rfl) (by decide), roomAt_out h hx, bnd_t]
    · unfold F_X8_strip F_X8_strip_b27
      rw [isRoom_out hx, bnd_v, if_pos rfl, mO hM, ref1 hM, bnd_v, if_neg (by decide)]
end ST
