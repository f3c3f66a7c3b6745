/-! paint, strip -/
theorem idx_inj {w a b x y : Nat} (ha : a < w) (hx : x < w) (h : b * w + a = y * w + x) : b = y ∧ a = x := by
  have h1 : (b * w + a) / w = b := by rw [Nat.mul_comm, Nat.mul_add_div (by omega), Nat.div_eq_of_lt ha, Nat.add_zero]
  have h2 : (y * w + x) / w = y := by rw [Nat.mul_comm, Nat.mul_add_div (by omega), Nat.div_eq_of_lt hx, Nat.add_zero]
  have h3 : b = y := by rw [← h1, h, h2]
  subst h3
  exact ⟨rfl, by omega⟩
section PA
variable {A : Adr} {iv : IVt} {rv : RVt} {ov : Nat → Int64} {z np nr nl : Nat}
theorem MD.rvto {rv' : RVt} (h : MD A rv) (hr : ∀ j, rv' 20 0 j = rv 20 0 j) : MD A rv' := ⟨h.1, h.2.1, fun p hp => ⟨(hr _).trans (h.2.2 p hp).1, (h.2.2 p hp).2⟩⟩
theorem TOP.rvto {rv' : RVt} (h : TOP A rv np nr nl) (hr : ∀ T j, T ≤ 4 → rv' T 0 j = rv T 0 j) : TOP A rv' np nr nl := by
  obtain ⟨g1, ⟨g2, g3, g4, g5⟩, g6, g7, g8, g9, g10⟩ := h
  exact ⟨g1, ⟨(hr 0 0 (by decide)).trans g2, (hr 0 2 (by decide)).trans g3, (hr 0 4 (by decide)).trans g4, (hr 0 6 (by decide)).trans g5⟩, fun i hi => (hr 1 i (by decide)).trans (g6 i hi), fun i hi => (hr 2 i (by decide)).trans (g7 i hi), fun i hi => (hr 3 i (by decide)).trans (g8 i hi), fun i hi => (hr 4 i (by decide)).trans (g9 i hi), g10⟩
theorem holds_spec {T U i c r : Nat} {x y : Int32} (hA : IN A) (h : CEL A iv rv T U i c r) : ((∃ a, a < c ∧ x = nI a) → (∃ b, b < r ∧ y = nI b) → F_X0_holds (A.1 T i) x y (z, hv A iv rv ov) = rtv 1 (z, hv A iv rv ov)) ∧ ((¬ ∃ a, a < c ∧ x = nI a) ∨ (¬ ∃ b, b < r ∧ y = nI b) → F_X0_holds (A.1 T i) x y (z, hv A iv rv ov) = rtv 0 (z, hv A iv rv ov)) := by
  obtain ⟨h1, h2, h3, h4, h5, h6, h7, h8, h9, h10, h11, h12⟩ := h
  unfold F_X0_holds F_X0_holds_b28
  rw [gfI_hv hA h1 h3 (by decide) (by rfl), h7, gfI_hv hA h1 h3 (by decide) (by rfl), h8]
  refine ⟨?_, ?_⟩
  · rintro ⟨a, ha, rfl⟩ ⟨b, hb, rfl⟩
    rw [if_neg (nI_pos (by omega)), if_neg (nI_ge ha (by omega)), if_neg (nI_pos (by omega)), if_neg (nI_ge hb (by omega))]
    rfl
  · intro q
    by_cases u1 : x < 0
    · rw [if_pos u1]
      rfl
    by_cases u2 : nI c ≤ x
    · rw [if_neg u1, if_pos u2]
      rfl
    by_cases u3 : y < 0
    · rw [if_neg u1, if_neg u2, if_pos u3]
      rfl
    by_cases u4 : nI r ≤ y
    · rw [if_neg u1, if_neg u2, if_neg u3, if_pos u4]
      rfl
    exfalso
    rcases q with q | q
    · rcases ix_cases x (n := c) (by omega) with ⟨-, -, w⟩ | ⟨j, w1, w2, -⟩
      · exact w.elim u1 u2
      · exact q ⟨j, w1, w2⟩
    · rcases ix_cases y (n := r) (by omega) with ⟨-, -, w⟩ | ⟨j, w1, w2, -⟩
      · exact w.elim u3 u4
      · exact q ⟨j, w1, w2⟩
theorem sc1 {v1 v2 v3 v4 : Int32} (h : INV A iv rv np nr nl) (hF : RFA A rv) : OP A cs_L_paint (F_X7_paint (A.1 0 0) v1 v2 v3 v4 (z, hv A iv rv ov)) (F_X8_paint (A.1 20 0) v1 v2 v3 v4) := by
  have hM := h.1
  have hA := hM.1
  obtain ⟨⟨t0, -⟩, -⟩ := id h.2.1
  have mbad : ∀ z1, F_X8_paint_b44 (A.1 20 0) v1 v2 v3 v4 (z1, hv A iv rv ov) = rtv 0 (z1, hv A (u3 iv 20 0 0 1) rv ov) := by
    intro z1
    unfold F_X8_paint_b44 F_X8_paint_b45 F_X8_paint_b73
    rw [if_pos rfl, mO hM, ref1 hM, bnd_v, if_neg (by decide)]
  by_cases hx : ∃ j, j < np ∧ v1 = nI j
  · obtain ⟨j, hj, rfl⟩ := hx
    obtain ⟨w, hh, s, p1, p2, p3⟩ := h.2.2.2.1 j hj
    obtain ⟨a1, a2, a3, a4, a5, a6, a7, a8, a9, a10⟩ := id p1
    obtain ⟨b1, b2, b3, b4, b5, b6, b7, b8, b9, b10⟩ := id p2
    have cHead : ∀ K : Nat → hpT → Rs Int32, isO (z, hv A iv rv ov) (A.1 0 0) 7 (bnd (F_X7_patternAt (A.1 0 0) (nI j) (z, hv A iv rv ov)) K) = K (A.1 5 j) (z, hv A iv rv ov) := by
      intro K
      rw [isO_hv hA t0 (by rfl) (by decide), patAt_in h hj, bnd_v]
    by_cases hxx : ∃ a, a < w ∧ v2 = nI a
    · by_cases hyy : ∃ b, b < hh ∧ v3 = nI b
      · have hol := (holds_spec (z := z) (ov := ov) (x := v2) (y := v3) hA a2).1 hxx hyy
        have hxx' := hxx
        have hyy' := hyy
        obtain ⟨X, hX, rfl⟩ := hxx
        obtain ⟨Y, hY, rfl⟩ := hyy
        by_cases hc : inR v4 0 7
        · have hcat := cat_spec (z := z) (ov := ov) (x := nI X) (y := nI Y) hA a2
          have hput := put_spec (z := z) (ov := ov) (x := nI X) (y := nI Y) (v := v4) hA a2
          rw [wm_small hX (by omega), wm_small hY (by omega)] at hcat hput
          have eq3 := p3 X Y hX hY
          unfold cF mF at eq3
          refine fin_ok (x := iv 7 j (Y * w + X)) (A := A) (iv1 := u3 iv 7 j (Y * w + X) v4) (iv2 := u3 (u3 (u3 iv 7 j (Y * w + X) v4) 20 0 0 0) 24 0 (25 * j + 5 * Y + X) v4) (rv := rv) (ov := ov) (z := z) (np := np) (nr := nr) (nl := nl) ?_ (fun z1 ov' => ?_) ?_ hF rfl rfl rfl ?_
          · unfold F_X7_paint
            rw [cHead, gfR_hv hA a1 (by rfl) (by decide) (by rfl), a3, rfv_s, nn_s, isO_hv hA a2.1 (by rfl) (by decide), hol, bnd_v, if_neg (by decide), req_in hc, bnd_v, gfR_hv hA a1 (by rfl) (by decide) (by rfl), a3, rfv_s, nn_s, isO_hv hA a2.1 (by rfl) (by decide), hcat, bnd_v, gfR_hv hA a1 (by rfl) (by decide) (by rfl), a3, rfv_s, nn_s, isO_hv hA a2.1 (by rfl) (by decide), hput, bnd_v]
          · have c1 : iv 20 0 1 = nI np := h.2.2.1.2.1
            have np6 : np ≤ 6 := h.2.2.1.2.2.1
            unfold F_X8_paint F_X8_isPattern
            rw [mO hM, mI1 hM, u3_T (by decide), c1, (is_ix (by omega)).1 ⟨j, hj, rfl⟩, bnd_v, rtZ_1, bnd_v, if_neg (by decide), mR2 hM, nn_s, mA2 hM b1, u3_T (by decide), b2, (is_ix (by omega)).1 hxx', bnd_v, if_neg (by decide), mR3 hM, nn_s, mA3 hM b1, u3_T (by decide), b3, (is_ix (by omega)).1 hyy', bnd_v, if_neg (by decide)]
            unfold F_X8_paint_b45 F_X8_paint_b73
            rw [if_neg (by decide), is_in hc, bnd_v, if_neg (by decide), mO hM, ref0 hM, bnd_v, if_pos rfl, mR5 hM, nn_s, show (25 : Int32) = nI 25 from rfl, show (5 : Int32) = nI 5 from rfl, pk_mul, pk_mul, nI_add, nI_add, mA5 hM (by omega), mR5 hM, nn_s, mS5 hM (by omega), u3_T (by decide), u3_T (by decide), eq3]
          · rw [u3_T (by decide), u3_s]
          · have e : ∀ T i j', T ≠ 7 → T ≠ 20 → T ≠ 24 → u3 (u3 (u3 iv 7 j (Y * w + X) v4) 20 0 0 0) 24 0 (25 * j + 5 * Y + X) v4 T i j' = iv T i j' := fun T i j' x1 x2 x3 => by rw [u3_T x3, u3_T x2, u3_T x1]
            have e7 : ∀ i j', ¬ (i = j ∧ j' = Y * w + X) → u3 (u3 (u3 iv 7 j (Y * w + X) v4) 20 0 0 0) 24 0 (25 * j + 5 * Y + X) v4 7 i j' = iv 7 i j' := fun i j' q => by rw [u3_T (by decide), u3_T (by decide), u3_n (fun w => q w.2)]
            have e24 : ∀ k, k ≠ 25 * j + 5 * Y + X → u3 (u3 (u3 iv 7 j (Y * w + X) v4) 20 0 0 0) 24 0 (25 * j + 5 * Y + X) v4 24 0 k = iv 24 0 k := fun k q => by rw [u3_n (fun w => q w.2.2), u3_T (by decide), u3_T (by decide)]
            have e20 : ∀ k, k ≠ 0 → u3 (u3 (u3 iv 7 j (Y * w + X) v4) 20 0 0 0) 24 0 (25 * j + 5 * Y + X) v4 20 0 k = iv 20 0 k := fun k q => by rw [u3_T (by decide), u3_n (fun w => q w.2.2), u3_T (by decide)]
            have s7 : u3 (u3 (u3 iv 7 j (Y * w + X) v4) 20 0 0 0) 24 0 (25 * j + 5 * Y + X) v4 7 j (Y * w + X) = v4 := by rw [u3_T (by decide), u3_T (by decide), u3_s]
            have s24 : u3 (u3 (u3 iv 7 j (Y * w + X) v4) 20 0 0 0) 24 0 (25 * j + 5 * Y + X) v4 24 0 (25 * j + 5 * Y + X) = v4 := u3_s
            generalize u3 (u3 (u3 iv 7 j (Y * w + X) v4) 20 0 0 0) 24 0 (25 * j + 5 * Y + X) v4 = iv2 at e e7 e24 e20 s7 s24 ⊢
            obtain ⟨g1, g2, g3, g4, g5, g6, g7⟩ := h
            refine ⟨g1, g2, g3.to (fun k => e _ _ _ (by decide) (by decide) (by decide)) (e20 _ (by decide)) (e20 _ (by decide)) (e20 _ (by decide)) (e20 _ (by decide)) (fun k hk => e24 _ (by omega)), fun i hi => ?_, fun i hi => (g5 i hi).to (Nat.le_refl _) (fun _ _ q => q) rfl rfl ?_ ?_ ?_ ?_ ?_ ?_ ?_ ?_ ?_ ?_, fun i hi => (g6 i hi).to (Nat.le_refl _) (fun _ _ q => q) rfl ?_ ?_ ?_ ?_ ?_, fun r hr => (g7 r hr).to (Nat.le_refl _) (fun _ _ q => q) (fun _ _ q => q) (fun _ => rfl) rfl (fun _ _ => rfl) (fun _ _ => rfl) (fun _ _ => rfl) ?_ ?_ ?_ ?_ ?_ ?_ ?_ ?_ ?_ ?_ ?_ ?_ ?_ ?_ ?_ (fun l k _ hk => ⟨k, Nat.le_refl _, (e _ _ _ (by decide) (by decide) (by decide)).trans hk⟩) ?_⟩
            · by_cases hij : i = j
              · subst hij
                refine ⟨w, hh, s, p1.to (fun _ _ q => q) rfl rfl (fun _ => e _ _ _ (by decide) (by decide) (by decide)) (fun _ => e _ _ _ (by decide) (by decide) (by decide)), p2.to (e _ _ _ (by decide) (by decide) (by decide)) (e _ _ _ (by decide) (by decide) (by decide)) (e _ _ _ (by decide) (by decide) (by decide)), fun a b ha hb => ?_⟩
                unfold cF mF
                by_cases hab : b = Y ∧ a = X
                · rw [hab.1, hab.2, s7, s24]
                · rw [e7 _ _ (fun q => hab (idx_inj ha hX q.2)), e24 _ (fun q => hab (by omega))]
                  exact p3 a b ha hb
              · refine (g4 i hi).to (fun _ _ q => q) rfl rfl ?_ ?_ (fun k => e7 _ _ (fun q => hij q.1)) ?_ ?_ ?_ (fun k k1 k2 => e24 _ (by omega)) <;> intros <;> exact e _ _ _ (by decide) (by decide) (by decide)
            all_goals intros
            all_goals exact e _ _ _ (by decide) (by decide) (by decide)
        · refine op_ref (z := z) (ov := ov) (k := 2) (b := 0) h hF ?_ (fun _ => wc2 (by decide)) (by decide) (fun z1 => ?_)
          · unfold F_X7_paint
            rw [cHead, gfR_hv hA a1 (by rfl) (by decide) (by rfl), a3, rfv_s, nn_s, isO_hv hA a2.1 (by rfl) (by decide), hol, bnd_v, if_neg (by decide), req_out hc, bnd_t]
          · unfold F_X8_paint
            rw [mO hM, isPat_in h hj, bnd_v, if_neg (by decide), mR2 hM, nn_s, mA2 hM b1, b2, (is_ix (by omega)).1 hxx', bnd_v, if_neg (by decide), mR3 hM, nn_s, mA3 hM b1, b3, (is_ix (by omega)).1 hyy', bnd_v, if_neg (by decide)]
            unfold F_X8_paint_b45 F_X8_paint_b73
            rw [if_neg (by decide), is_out hc, bnd_v, if_pos rfl, mO hM, ref2 hM, bnd_v, if_neg (by decide)]
      · refine op_ref (z := z) (ov := ov) (k := 1) (b := 0) h hF ?_ (fun _ => wc1) (by decide) (fun z1 => ?_)
        · unfold F_X7_paint
          rw [cHead, gfR_hv hA a1 (by rfl) (by decide) (by rfl), a3, rfv_s, nn_s, isO_hv hA a2.1 (by rfl) (by decide), (holds_spec hA a2).2 (Or.inr hyy), bnd_v, if_pos rfl]
        · unfold F_X8_paint
          rw [mO hM, isPat_in h hj, bnd_v, if_neg (by decide), mR2 hM, nn_s, mA2 hM b1, b2, (is_ix (by omega)).1 hxx, bnd_v, if_neg (by decide), mR3 hM, nn_s, mA3 hM b1, b3, (is_ix (by omega)).2 hyy, bnd_v, if_pos rfl, mbad]
    · refine op_ref (z := z) (ov := ov) (k := 1) (b := 0) h hF ?_ (fun _ => wc1) (by decide) (fun z1 => ?_)
      · unfold F_X7_paint
        rw [cHead, gfR_hv hA a1 (by rfl) (by decide) (by rfl), a3, rfv_s, nn_s, isO_hv hA a2.1 (by rfl) (by decide), (holds_spec hA a2).2 (Or.inl hxx), bnd_v, if_pos rfl]
      · unfold F_X8_paint
        rw [mO hM, isPat_in h hj, bnd_v, if_neg (by decide), mR2 hM, nn_s, mA2 hM b1, b2, (is_ix (by omega)).2 hxx, bnd_v, if_pos rfl, mbad]
  · refine op_ref (z := z) (ov := ov) (k := 1) (b := 0) h hF ?_ (fun _ => wc1) (by decide) (fun z1 => ?_)
    · unfold F_X7_paint
      rw [isO_hv hA t0 (by rfl) (by decide), patAt_out h hx, bnd_t]
    · unfold F_X8_paint
      rw [mO hM, isPat_out h hx, bnd_v, if_pos rfl, mbad]
end PA
