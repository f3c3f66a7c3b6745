/-! lot, wall -/
section LO
variable {A : Adr} {iv : IVt} {rv : RVt} {ov : Nat → Int64} {z np nr nl : Nat}
theorem k_lot {q d k L : Nat} (hO : OKA A rv z) (h : INV A iv rv np nr nl) (hq : q < nr) (hd : d ≤ 9) (hk1 : 1 ≤ k) (hk2 : k ≤ 20) (hL1 : 1 ≤ L) (hL2 : L ≤ 200) (hn : nl < 10) : ∃ A' iv' rv', F_X7_lot (A.1 0 0) (nI q) (nI d) (nI k) (nI L) (z, hv A iv rv ov) = rtv (nI nl) (z + 1, hv A' iv' rv' ov) ∧ OKA A' rv' (z + 1) ∧ INV A' iv' rv' np nr (nl + 1) ∧ FRK A iv rv A' iv' rv' ∧ FRW iv iv' ∧ iv' 0 0 7 = iv 0 0 7 ∧ (∀ i, rv' 12 i 3 = rv 12 i 3) := by
  have hA := h.1
  obtain ⟨⟨t0, t1, t2, t3, t4⟩, ⟨w0, w1, w2, w3⟩, w4, w5, w6, w7, d1, d2, d3⟩ := id h.2.1
  obtain ⟨n1, n3, c1, c3, c4, n6⟩ := id h.2.2.1
  obtain ⟨c, r, rd, r2, r5, r6, r7, r8, r10, r11⟩ := h.2.2.2.2.1 q hq
  have hd11 := d3 nl (Nat.le_refl _)
  have hO1 := hO.al hd11
  have a_ : ∀ T i, A.2.2 T i = true → (alA A 11 nl z).1 T i = A.1 T i := fun T i hl => alA_n (fun w => by rw [w.1, w.2, hd11] at hl; cases hl)
  have l11 : (alA A 11 nl z).2.2 11 nl = true := alA_l
  have lm : ∀ T i, A.2.2 T i = true → (alA A 11 nl z).2.2 T i = true := fun T i => alA_lt
  have ln : ∀ T i, T ≠ 11 → (alA A 11 nl z).2.2 T i = A.2.2 T i := fun T i hT => alA_ln (by omega)
  have ln2 : ∀ i, i ≠ nl → (alA A 11 nl z).2.2 11 i = A.2.2 11 i := fun i hT => alA_ln (by omega)
  have hnew : ∀ {α : Type} (K : Nat → hpT → Rs α), newO (z, hv A iv rv ov) 1 [.null, .int 0, .int 0, .int 0, .int 0] K = K ((alA A 11 nl z).1 11 nl) (z + 1, hv (alA A 11 nl z) (z3 iv 11 nl 0) (z3 rv 11 nl none) ov) := fun K => (newO_hv hO hd11 (by rfl) (by decide) (by rfl)).1
  generalize alA A 11 nl z = A1 at hO1 a_ l11 lm ln ln2 hnew
  have hI1 := hO1.1
  have hO2 : OKA A1 (u3 (u3 (z3 rv 11 nl none) 11 nl 0 (some (8, q))) 3 0 nl (some (11, nl))) (z + 1) := (hO1.ref (lm _ _ r5)).ref l11
  refine ⟨A1, u3 (u3 (u3 (u3 (u3 (z3 iv 11 nl 0) 11 nl 1 (nI q)) 11 nl 2 (nI d)) 11 nl 4 (nI k)) 11 nl 3 (nI L)) 0 0 5 (nI (nl + 1)), u3 (u3 (z3 rv 11 nl none) 11 nl 0 (some (8, q))) 3 0 nl (some (11, nl)), ?_, hO2, ?_⟩
  · unfold F_X7_lot
    rw [isO_hv hA t0 (by rfl) (by decide), rolAt_in h hq, bnd_v, req_in (show inR (nI d) 0 9 from rg_to (a := 0) (b := 9) (Nat.zero_le _) hd (by decide)), bnd_v, req_in (show inR (nI k) 1 20 from rg_to (a := 1) (b := 20) hk1 hk2 (by decide)), bnd_v, req_in (show inR (nI L) 1 200 from rg_to (a := 1) (b := 200) hL1 hL2 (by decide)), bnd_v, gfI_hv hA t0 (by rfl) (by decide) (by rfl), c4, if_neg (nI_pos (by omega)), gfR_hv hA t0 (by rfl) (by decide) (by rfl), w2, rfv_s, nn_s, alen_R (k := 2) hA t3 (by rfl) (by decide), show kn 3 = 10 from rfl, if_pos (nI_lt hn (by decide)), gfR_hv hA t0 (by rfl) (by decide) (by rfl), w2, rfv_s, hnew]
    unfold F_X1_init
    rw [← a_ _ _ r5, pfR_hv hI1 l11 (by rfl) (by decide) (by rfl), pf_hv hI1 l11 (by rfl) (by decide) (by rfl), pf_hv hI1 l11 (by rfl) (by decide) (by rfl), pf_hv hI1 l11 (by rfl) (by decide) (by rfl), pf_hv hI1 l11 (by rfl) (by decide) (by rfl), bnd_v, nn_s, ← a_ _ _ t3, astR_hv (q := 2) hI1 (lm _ _ t3) (by rfl) (show nl < 10 from hn) l11 (by rfl) (by decide), ← a_ _ _ t0, pf_hv hI1 (lm _ _ t0) (by rfl) (by decide) (by rfl), nI_1]
  · have e : ∀ T i j, T ≠ 0 ∧ T ≠ 11 → (u3 (u3 (u3 (u3 (u3 (z3 iv 11 nl 0) 11 nl 1 (nI q)) 11 nl 2 (nI d)) 11 nl 4 (nI k)) 11 nl 3 (nI L)) 0 0 5 (nI (nl + 1))) T i j = iv T i j := by
      rintro T i j ⟨x1, x2⟩
      simp [u3, z3, x1, x2]
    have e0 : ∀ j, j ≠ 5 → (u3 (u3 (u3 (u3 (u3 (z3 iv 11 nl 0) 11 nl 1 (nI q)) 11 nl 2 (nI d)) 11 nl 4 (nI k)) 11 nl 3 (nI L)) 0 0 5 (nI (nl + 1))) 0 0 j = iv 0 0 j := by
      intro j hj
      simp [u3, z3, hj]
    have e05 : (u3 (u3 (u3 (u3 (u3 (z3 iv 11 nl 0) 11 nl 1 (nI q)) 11 nl 2 (nI d)) 11 nl 4 (nI k)) 11 nl 3 (nI L)) 0 0 5 (nI (nl + 1))) 0 0 5 = nI (nl + 1) := by simp [u3, z3]
    have e11 : ∀ i j, i ≠ nl → (u3 (u3 (u3 (u3 (u3 (z3 iv 11 nl 0) 11 nl 1 (nI q)) 11 nl 2 (nI d)) 11 nl 4 (nI k)) 11 nl 3 (nI L)) 0 0 5 (nI (nl + 1))) 11 i j = iv 11 i j := by
      intro i j hi
      simp [u3, z3, hi]
    have e111 : (u3 (u3 (u3 (u3 (u3 (z3 iv 11 nl 0) 11 nl 1 (nI q)) 11 nl 2 (nI d)) 11 nl 4 (nI k)) 11 nl 3 (nI L)) 0 0 5 (nI (nl + 1))) 11 nl 1 = nI q := by simp [u3, z3]
    have e113 : (u3 (u3 (u3 (u3 (u3 (z3 iv 11 nl 0) 11 nl 1 (nI q)) 11 nl 2 (nI d)) 11 nl 4 (nI k)) 11 nl 3 (nI L)) 0 0 5 (nI (nl + 1))) 11 nl 3 = nI L := by simp [u3, z3]
    have e114 : (u3 (u3 (u3 (u3 (u3 (z3 iv 11 nl 0) 11 nl 1 (nI q)) 11 nl 2 (nI d)) 11 nl 4 (nI k)) 11 nl 3 (nI L)) 0 0 5 (nI (nl + 1))) 11 nl 4 = nI k := by simp [u3, z3]
    have er : ∀ T i j, T ≠ 11 → T ≠ 3 → (u3 (u3 (z3 rv 11 nl none) 11 nl 0 (some (8, q))) 3 0 nl (some (11, nl))) T i j = rv T i j := by
      intro T i j x1 x2
      simp [u3, z3, x1, x2]
    have er11 : ∀ i j, i ≠ nl → (u3 (u3 (z3 rv 11 nl none) 11 nl 0 (some (8, q))) 3 0 nl (some (11, nl))) 11 i j = rv 11 i j := by
      intro i j hi
      simp [u3, z3, hi]
    have er11n : (u3 (u3 (z3 rv 11 nl none) 11 nl 0 (some (8, q))) 3 0 nl (some (11, nl))) 11 nl 0 = some (8, q) := by simp [u3, z3]
    have er3 : ∀ j, j ≠ nl → (u3 (u3 (z3 rv 11 nl none) 11 nl 0 (some (8, q))) 3 0 nl (some (11, nl))) 3 0 j = rv 3 0 j := by
      intro j hj
      simp [u3, z3, hj]
    have er3n : (u3 (u3 (z3 rv 11 nl none) 11 nl 0 (some (8, q))) 3 0 nl (some (11, nl))) 3 0 nl = some (11, nl) := by simp [u3, z3]
    generalize (u3 (u3 (u3 (u3 (u3 (z3 iv 11 nl 0) 11 nl 1 (nI q)) 11 nl 2 (nI d)) 11 nl 4 (nI k)) 11 nl 3 (nI L)) 0 0 5 (nI (nl + 1))) = iv2 at e e0 e05 e11 e111 e113 e114 ⊢
    generalize (u3 (u3 (z3 rv 11 nl none) 11 nl 0 (some (8, q))) 3 0 nl (some (11, nl))) = rv2 at hO2 er er11 er11n er3 er3n ⊢
    obtain ⟨g1, g2, g3, g4, g5, g6, g7⟩ := h
    refine ⟨⟨hI1, ⟨⟨lm _ _ t0, lm _ _ t1, lm _ _ t2, lm _ _ t3, lm _ _ t4⟩, ⟨(er _ _ _ (by decide) (by decide)).trans w0, (er _ _ _ (by decide) (by decide)).trans w1, (er _ _ _ (by decide) (by decide)).trans w2, (er _ _ _ (by decide) (by decide)).trans w3⟩, fun i hi => (er _ _ _ (by decide) (by decide)).trans (w4 i hi), fun i hi => (er _ _ _ (by decide) (by decide)).trans (w5 i hi), fun i hi => ?_, fun i hi => (er _ _ _ (by decide) (by decide)).trans (w7 i hi), fun i hi => ?_, fun i hi => ?_, fun i hi => ?_⟩, ⟨(e0 1 (by decide)).trans n1, n3, (e0 3 (by decide)).trans c1, c3, e05, hn⟩, fun i hi => (g4 i hi).to lm (er _ _ _ (by decide) (by decide)) (er _ _ _ (by decide) (by decide)) (fun j => e _ _ _ (by decide)) (fun j => e _ _ _ (by decide)) ((g4 i hi).col (fun j => e _ _ _ (by decide))), fun i hi => (g5 i hi).to lm (er _ _ _ (by decide) (by decide)) (er _ _ _ (by decide) (by decide)) (e _ _ _ (by decide)) (e _ _ _ (by decide)) (e _ _ _ (by decide)), fun i hi => ?_, fun r' hr' => (g7 r' hr').to (Nat.le_succ _) lm (fun w _ hw => ⟨(ln _ _ (by decide)).trans hw.1, (ln _ _ (by decide)).trans hw.2⟩) (fun _ => er _ _ _ (by decide) (by decide)) (er _ _ _ (by decide) (by decide)) (fun _ _ => er _ _ _ (by decide) (by decide)) (fun _ _ => er _ _ _ (by decide) (by decide)) (fun l hl => er11 _ _ (by omega)) (fun _ => e _ _ _ (by decide)) (fun _ => e _ _ _ (by decide)) (fun _ => e _ _ _ (by decide)) (fun _ _ _ => e _ _ _ (by decide)) (fun _ _ _ => e _ _ _ (by decide)) (fun l hl => e11 _ _ (by omega)) (fun l k hl hk => ⟨k, Nat.le_refl _, (e11 _ _ (by omega)).trans hk⟩) (fun _ _ _ _ => e _ _ _ (by decide))⟩, ⟨fun T i hl => ⟨lm T i hl, a_ T i hl⟩, fun T i j hT _ => e _ _ _ (by omega), fun T i j hT _ => er _ _ _ (by omega) (by omega)⟩, ⟨fun i => e _ _ _ (by decide), fun i => e _ _ _ (by decide)⟩, e0 7 (by decide), fun i => er _ _ _ (by decide) (by decide)⟩
    · by_cases hin : i = nl
      · subst hin
        rw [er3n, if_pos (by omega)]
      · rw [er3 i hin, w6 i hi]
        by_cases hi2 : i < nl
        · rw [if_pos hi2, if_pos (by omega)]
        · rw [if_neg hi2, if_neg (by omega)]
    · obtain ⟨y1, y2, y3⟩ := d1 i hi
      exact ⟨(ln _ _ (by decide)).trans y1, (ln _ _ (by decide)).trans y2, (ln _ _ (by decide)).trans y3⟩
    · obtain ⟨y1, y2, y3⟩ := d2 i hi
      exact ⟨(ln _ _ (by decide)).trans y1, (ln _ _ (by decide)).trans y2, (ln _ _ (by decide)).trans y3⟩
    · exact (ln2 i (by omega)).trans (d3 i (by omega))
    · by_cases hin : i = nl
      · subst hin
        exact ⟨q, k, L, hq, hn, l11, er11n, e111, e114, hk2, e113, hL1, hL2⟩
      · exact (g6 i (by omega)).to (Nat.le_refl _) lm (er11 _ _ hin) (fun _ => e11 _ _ hin)
theorem k_lot_f {q d k L : Nat} (h : INV A iv rv np nr nl) (hq : q < nr) (hd : d ≤ 9) (hk1 : 1 ≤ k) (hk2 : k ≤ 20) (hL1 : 1 ≤ L) (hL2 : L ≤ 200) (hn : nl = 10) : F_X7_lot (A.1 0 0) (nI q) (nI d) (nI k) (nI L) (z, hv A iv rv ov) = tht IS (z, hv A iv rv ov) := by
  have hA := h.1
  obtain ⟨⟨t0, t1, t2, t3, t4⟩, ⟨w0, w1, w2, w3⟩, -⟩ := id h.2.1
  obtain ⟨n1, n3, c1, c3, c4, n6⟩ := id h.2.2.1
  unfold F_X7_lot F_X7_lot_b51
  rw [isO_hv hA t0 (by rfl) (by decide), rolAt_in h hq, bnd_v, req_in (show inR (nI d) 0 9 from rg_to (a := 0) (b := 9) (Nat.zero_le _) hd (by decide)), bnd_v, req_in (show inR (nI k) 1 20 from rg_to (a := 1) (b := 20) hk1 hk2 (by decide)), bnd_v, req_in (show inR (nI L) 1 200 from rg_to (a := 1) (b := 200) hL1 hL2 (by decide)), bnd_v, gfI_hv hA t0 (by rfl) (by decide) (by rfl), c4, if_neg (nI_pos (by omega)), gfR_hv hA t0 (by rfl) (by decide) (by rfl), w2, rfv_s, nn_s, alen_R (k := 2) hA t3 (by rfl) (by decide), show kn 3 = 10 from rfl, if_neg (nI_nlt (by omega) (by omega))]
theorem k_lot_x {v a b c : Int32} (h : INV A iv rv np nr nl) (hx : ¬ ∃ j, j < nr ∧ v = nI j) : F_X7_lot (A.1 0 0) v a b c (z, hv A iv rv ov) = tht IX (z, hv A iv rv ov) := by
  have hA := h.1
  obtain ⟨⟨t0, -⟩, -⟩ := id h.2.1
  unfold F_X7_lot
  rw [isO_hv hA t0 (by rfl) (by decide), rolAt_out h hx, bnd_t]
theorem k_lot_w {q : Nat} {v2 v3 v4 : Int32} (h : INV A iv rv np nr nl) (hq : q < nr) (hrg : ¬ (inR v2 0 9 ∧ inR v3 1 20 ∧ inR v4 1 200)) : F_X7_lot (A.1 0 0) (nI q) v2 v3 v4 (z, hv A iv rv ov) = tht IA (z, hv A iv rv ov) := by
  have hA := h.1
  obtain ⟨⟨t0, -⟩, -⟩ := id h.2.1
  unfold F_X7_lot
  rw [isO_hv hA t0 (by rfl) (by decide), rolAt_in h hq, bnd_v]
  by_cases q2 : inR v2 0 9
  · rw [req_in q2, bnd_v]
    by_cases q3 : inR v3 1 20
    · rw [req_in q3, bnd_v]
      by_cases q4 : inR v4 1 200
      · exact absurd ⟨q2, q3, q4⟩ hrg
      · rw [req_out q4, bnd_t]
    · rw [req_out q3, bnd_t]
  · rw [req_out q2, bnd_t]
/-- a wall of a bare room that has fewer than 4 -/
theorem k_wall {r n d hh : Nat} (hO : OKA A rv z) (h : INV A iv rv np nr nl) (hr : r < 4) (hn9 : iv 12 r 2 = nI n) (hn : n < 4) (b1 : rv 12 r 3 = none) (hd1 : 1 ≤ d) (hd2 : d ≤ 12) (hh1 : 1 ≤ hh) (hh2 : hh ≤ 60) : ∃ A' iv' rv', F_X7_wall (A.1 0 0) (nI r) (nI d) (nI hh) (z, hv A iv rv ov) = rtv (nI n) (z + 1 + 1, hv A' iv' rv' ov) ∧ OKA A' rv' (z + 1 + 1) ∧ INV A' iv' rv' np nr nl ∧ FRK A iv rv A' iv' rv' ∧ iv' 12 r 2 = nI (n + 1) ∧ (∀ i, i ≠ r → iv' 12 i 2 = iv 12 i 2) ∧ iv' 16 (4 * r + n) 0 = nI hh ∧ (∀ i, i ≠ 4 * r + n → iv' 16 i 0 = iv 16 i 0) ∧ iv' 0 0 7 = iv 0 0 7 := by
  have hA := h.1
  obtain ⟨⟨t0, t1, t2, t3, t4⟩, ⟨w0, w1, w2, w3⟩, w4, w5, w6, w7, d1, d2, d3⟩ := id h.2.1
  obtain ⟨g1, g2, g3, g4, g5, g6, g7, n', g8, g9, g11, g12, g13, g14⟩ := h.2.2.2.2.2.2 r hr
  have en : n' = n := nI_inj (by omega) (by omega) (g9.symm.trans hn9)
  subst en
  obtain ⟨hd16, hd17⟩ := g12 n' (Nat.le_refl _) hn
  have hO1 := hO.al hd16
  have hd17' : (alA A 16 (4 * r + n') z).2.2 17 (4 * r + n') = false := (alA_ln (by omega)).trans hd17
  have hO2 := hO1.al hd17'
  have a_ : ∀ T i, A.2.2 T i = true → (alA (alA A 16 (4 * r + n') z) 17 (4 * r + n') (z + 1)).1 T i = A.1 T i := fun T i hl => (alA_n (fun w => by rw [w.1, w.2, hd17] at hl; cases hl)).trans (alA_n (fun w => by rw [w.1, w.2, hd16] at hl; cases hl))
  have a16 : (alA (alA A 16 (4 * r + n') z) 17 (4 * r + n') (z + 1)).1 16 (4 * r + n') = (alA A 16 (4 * r + n') z).1 16 (4 * r + n') := alA_n (by omega)
  have l17 : (alA (alA A 16 (4 * r + n') z) 17 (4 * r + n') (z + 1)).2.2 17 (4 * r + n') = true := alA_l
  have l16 : (alA (alA A 16 (4 * r + n') z) 17 (4 * r + n') (z + 1)).2.2 16 (4 * r + n') = true := alA_lt alA_l
  have lm : ∀ T i, A.2.2 T i = true → (alA (alA A 16 (4 * r + n') z) 17 (4 * r + n') (z + 1)).2.2 T i = true := fun T i hl => alA_lt (alA_lt hl)
  have ln : ∀ T i, T ≠ 16 → T ≠ 17 → (alA (alA A 16 (4 * r + n') z) 17 (4 * r + n') (z + 1)).2.2 T i = A.2.2 T i := fun T i hT hT2 => (alA_ln (by omega)).trans (alA_ln (by omega))
  have ln2 : ∀ T i, i ≠ 4 * r + n' → (alA (alA A 16 (4 * r + n') z) 17 (4 * r + n') (z + 1)).2.2 T i = A.2.2 T i := fun T i hT => (alA_ln (by omega)).trans (alA_ln (by omega))
  have hnew : ∀ {α : Type} (K : Nat → hpT → Rs α), newO (z, hv A iv rv ov) 6 [.int 0, .null, .int 0] K = K ((alA A 16 (4 * r + n') z).1 16 (4 * r + n')) (z + 1, hv (alA A 16 (4 * r + n') z) (z3 iv 16 (4 * r + n') 0) (z3 rv 16 (4 * r + n') none) ov) := fun K => (newO_hv hO hd16 (by rfl) (by decide) (by rfl)).1
  have hnew2 : ∀ {α : Type} (K : Nat → hpT → Rs α), newI (z + 1, hv (alA A 16 (4 * r + n') z) (z3 iv 16 (4 * r + n') 0) (z3 rv 16 (4 * r + n') none) ov) 24 K = K ((alA (alA A 16 (4 * r + n') z) 17 (4 * r + n') (z + 1)).1 17 (4 * r + n')) (z + 1 + 1, hv (alA (alA A 16 (4 * r + n') z) 17 (4 * r + n') (z + 1)) (z3 (z3 iv 16 (4 * r + n') 0) 17 (4 * r + n') 0) (z3 (z3 rv 16 (4 * r + n') none) 17 (4 * r + n') none) ov) := fun K => (newI_hv hO1 hd17' (by rfl) (by rfl)).1
  rw [← a16] at hnew
  generalize alA (alA A 16 (4 * r + n') z) 17 (4 * r + n') (z + 1) = A2 at hO2 a_ a16 l17 l16 lm ln ln2 hnew hnew2
  have hI2 := hO2.1
  have hO3 : OKA A2 (u3 (u3 (z3 (z3 rv 16 (4 * r + n') none) 17 (4 * r + n') none) 16 (4 * r + n') 1 (some (17, 4 * r + n'))) 13 r n' (some (16, 4 * r + n'))) (z + 1 + 1) := (hO2.ref l17).ref l16
  refine ⟨A2, u3 (u3 (u3 (z3 (z3 iv 16 (4 * r + n') 0) 17 (4 * r + n') 0) 16 (4 * r + n') 2 (nI d)) 16 (4 * r + n') 0 (nI hh)) 12 r 2 (nI (n' + 1)), u3 (u3 (z3 (z3 rv 16 (4 * r + n') none) 17 (4 * r + n') none) 16 (4 * r + n') 1 (some (17, 4 * r + n'))) 13 r n' (some (16, 4 * r + n')), ?_, hO3, ?_⟩
  · unfold F_X7_wall
    rw [isO_hv hA t0 (by rfl) (by decide), roomAt_in h hr, bnd_v, req_in (show inR (nI d) 1 12 from rg_to (a := 1) (b := 12) hd1 hd2 (by decide)), bnd_v, req_in (show inR (nI hh) 1 60 from rg_to (a := 1) (b := 60) hh1 hh2 (by decide)), bnd_v, isO_hv hA g1 (by rfl) (by decide), cHung_n hA g1 b1, bnd_v, if_pos rfl, isO_hv hA g1 (by rfl) (by decide)]
    unfold F_X5_addWall
    rw [gfI_hv hA g1 (by rfl) (by decide) (by rfl), g9, if_neg (nI_pos (by omega)), gfR_hv hA g1 (by rfl) (by decide) (by rfl), g5, rfv_s, nn_s, alen_R (k := 4) hA g2 (by rfl) (by decide), show kn 13 = 4 from rfl, if_pos (nI_lt hn (by decide)), gfR_hv hA g1 (by rfl) (by decide) (by rfl), g5, rfv_s, hnew]
    unfold F_X6_init
    rw [hnew2, pfR_hv hI2 l16 (by rfl) (by decide) (by rfl), pf_hv hI2 l16 (by rfl) (by decide) (by rfl), pf_hv hI2 l16 (by rfl) (by decide) (by rfl), bnd_v, nn_s, ← a_ _ _ g2, astR_hv (q := 4) hI2 (lm _ _ g2) (by rfl) (show n' < 4 from hn) l16 (by rfl) (by decide), ← a_ _ _ g1, pf_hv hI2 (lm _ _ g1) (by rfl) (by decide) (by rfl), bnd_v, if_neg (nI_m1 (by omega)), nI_1]
  · have e : ∀ T i j, T ≠ 12 ∧ T ≠ 16 ∧ T ≠ 17 → (u3 (u3 (u3 (z3 (z3 iv 16 (4 * r + n') 0) 17 (4 * r + n') 0) 16 (4 * r + n') 2 (nI d)) 16 (4 * r + n') 0 (nI hh)) 12 r 2 (nI (n' + 1))) T i j = iv T i j := by
      rintro T i j ⟨x1, x2, x3⟩
      simp [u3, z3, x1, x2, x3]
    have e12 : ∀ i j, i ≠ r ∨ j ≠ 2 → (u3 (u3 (u3 (z3 (z3 iv 16 (4 * r + n') 0) 17 (4 * r + n') 0) 16 (4 * r + n') 2 (nI d)) 16 (4 * r + n') 0 (nI hh)) 12 r 2 (nI (n' + 1))) 12 i j = iv 12 i j := by
      intro i j hi
      simp only [u3, z3]
      repeat rw [if_neg (by omega)]
    have e122 : (u3 (u3 (u3 (z3 (z3 iv 16 (4 * r + n') 0) 17 (4 * r + n') 0) 16 (4 * r + n') 2 (nI d)) 16 (4 * r + n') 0 (nI hh)) 12 r 2 (nI (n' + 1))) 12 r 2 = nI (n' + 1) := by simp [u3, z3]
    have e16 : ∀ i j, i ≠ 4 * r + n' → (u3 (u3 (u3 (z3 (z3 iv 16 (4 * r + n') 0) 17 (4 * r + n') 0) 16 (4 * r + n') 2 (nI d)) 16 (4 * r + n') 0 (nI hh)) 12 r 2 (nI (n' + 1))) 16 i j = iv 16 i j ∧ (u3 (u3 (u3 (z3 (z3 iv 16 (4 * r + n') 0) 17 (4 * r + n') 0) 16 (4 * r + n') 2 (nI d)) 16 (4 * r + n') 0 (nI hh)) 12 r 2 (nI (n' + 1))) 17 i j = iv 17 i j := by
      intro i j hi
      simp [u3, z3, hi]
    have e162 : (u3 (u3 (u3 (z3 (z3 iv 16 (4 * r + n') 0) 17 (4 * r + n') 0) 16 (4 * r + n') 2 (nI d)) 16 (4 * r + n') 0 (nI hh)) 12 r 2 (nI (n' + 1))) 16 (4 * r + n') 2 = nI d := by simp [u3, z3]
    have e160 : (u3 (u3 (u3 (z3 (z3 iv 16 (4 * r + n') 0) 17 (4 * r + n') 0) 16 (4 * r + n') 2 (nI d)) 16 (4 * r + n') 0 (nI hh)) 12 r 2 (nI (n' + 1))) 16 (4 * r + n') 0 = nI hh := by simp [u3, z3]
    have er : ∀ T i j, T ≠ 16 → T ≠ 17 → T ≠ 13 → (u3 (u3 (z3 (z3 rv 16 (4 * r + n') none) 17 (4 * r + n') none) 16 (4 * r + n') 1 (some (17, 4 * r + n'))) 13 r n' (some (16, 4 * r + n'))) T i j = rv T i j := by
      intro T i j x1 x2 x3
      simp [u3, z3, x1, x2, x3]
    have er16 : ∀ i j, i ≠ 4 * r + n' → (u3 (u3 (z3 (z3 rv 16 (4 * r + n') none) 17 (4 * r + n') none) 16 (4 * r + n') 1 (some (17, 4 * r + n'))) 13 r n' (some (16, 4 * r + n'))) 16 i j = rv 16 i j := by
      intro i j hi
      simp [u3, z3, hi]
    have er16n : (u3 (u3 (z3 (z3 rv 16 (4 * r + n') none) 17 (4 * r + n') none) 16 (4 * r + n') 1 (some (17, 4 * r + n'))) 13 r n' (some (16, 4 * r + n'))) 16 (4 * r + n') 1 = some (17, 4 * r + n') := by simp [u3, z3]
    have er13 : ∀ i j, i ≠ r ∨ j ≠ n' → (u3 (u3 (z3 (z3 rv 16 (4 * r + n') none) 17 (4 * r + n') none) 16 (4 * r + n') 1 (some (17, 4 * r + n'))) 13 r n' (some (16, 4 * r + n'))) 13 i j = rv 13 i j := by
      intro i j hi
      simp only [u3, z3]
      repeat rw [if_neg (by omega)]
    have er13n : (u3 (u3 (z3 (z3 rv 16 (4 * r + n') none) 17 (4 * r + n') none) 16 (4 * r + n') 1 (some (17, 4 * r + n'))) 13 r n' (some (16, 4 * r + n'))) 13 r n' = some (16, 4 * r + n') := by simp [u3, z3]
    generalize (u3 (u3 (u3 (z3 (z3 iv 16 (4 * r + n') 0) 17 (4 * r + n') 0) 16 (4 * r + n') 2 (nI d)) 16 (4 * r + n') 0 (nI hh)) 12 r 2 (nI (n' + 1))) = iv2 at e e12 e122 e16 e162 e160 ⊢
    generalize (u3 (u3 (z3 (z3 rv 16 (4 * r + n') none) 17 (4 * r + n') none) 16 (4 * r + n') 1 (some (17, 4 * r + n'))) 13 r n' (some (16, 4 * r + n'))) = rv2 at hO3 er er16 er16n er13 er13n ⊢
    obtain ⟨f1, f2, f3, f4, f5, f6, f7⟩ := h
    refine ⟨⟨hI2, ⟨⟨lm _ _ t0, lm _ _ t1, lm _ _ t2, lm _ _ t3, lm _ _ t4⟩, ⟨(er _ _ _ (by decide) (by decide) (by decide)).trans w0, (er _ _ _ (by decide) (by decide) (by decide)).trans w1, (er _ _ _ (by decide) (by decide) (by decide)).trans w2, (er _ _ _ (by decide) (by decide) (by decide)).trans w3⟩, fun i hi => (er _ _ _ (by decide) (by decide) (by decide)).trans (w4 i hi), fun i hi => (er _ _ _ (by decide) (by decide) (by decide)).trans (w5 i hi), fun i hi => (er _ _ _ (by decide) (by decide) (by decide)).trans (w6 i hi), fun i hi => (er _ _ _ (by decide) (by decide) (by decide)).trans (w7 i hi), fun i hi => ?_, fun i hi => ?_, fun i hi => (ln _ _ (by decide) (by decide)).trans (d3 i hi)⟩, f3.to (fun j _ => e _ _ _ (by decide)), fun i hi => (f4 i hi).to lm (er _ _ _ (by decide) (by decide) (by decide)) (er _ _ _ (by decide) (by decide) (by decide)) (fun j => e _ _ _ (by decide)) (fun j => e _ _ _ (by decide)) ((f4 i hi).col (fun j => e _ _ _ (by decide))), fun i hi => (f5 i hi).to lm (er _ _ _ (by decide) (by decide) (by decide)) (er _ _ _ (by decide) (by decide) (by decide)) (e _ _ _ (by decide)) (e _ _ _ (by decide)) (e _ _ _ (by decide)), fun i hi => (f6 i hi).to (Nat.le_refl _) lm (er _ _ _ (by decide) (by decide) (by decide)) (fun _ => e _ _ _ (by decide)), fun r' hr' => ?_⟩, ⟨fun T i hl => ⟨lm T i hl, a_ T i hl⟩, fun T i j hT _ => e _ _ _ (by omega), fun T i j hT _ => er _ _ _ (by omega) (by omega) (by omega)⟩, e122, fun i hi => e12 _ _ (Or.inl hi), e160, fun i hi => (e16 i 0 hi).1, e _ _ _ (by decide)⟩
    · obtain ⟨y1, y2, y3⟩ := d1 i hi
      exact ⟨(ln _ _ (by decide) (by decide)).trans y1, (ln _ _ (by decide) (by decide)).trans y2, (ln _ _ (by decide) (by decide)).trans y3⟩
    · obtain ⟨y1, y2, y3⟩ := d2 i hi
      exact ⟨(ln _ _ (by decide) (by decide)).trans y1, (ln _ _ (by decide) (by decide)).trans y2, (ln _ _ (by decide) (by decide)).trans y3⟩
    · by_cases hrr : r' = r
      · subst hrr
        refine ⟨lm _ _ g1, lm _ _ g2, lm _ _ g3, lm _ _ g4, (er _ _ _ (by decide) (by decide) (by decide)).trans g5, (er _ _ _ (by decide) (by decide) (by decide)).trans g6, (er _ _ _ (by decide) (by decide) (by decide)).trans g7, n' + 1, hn, e122, fun w hw => ?_, fun w hw1 hw2 => ⟨(ln2 _ _ (by omega)).trans (g12 w (by omega) hw2).1, (ln2 _ _ (by omega)).trans (g12 w (by omega) hw2).2⟩, fun w hw => ?_, Or.inl ((er _ _ _ (by decide) (by decide) (by decide)).trans b1)⟩
        · by_cases hwn : w = n'
          · subst hwn
            rw [er13n, if_pos (by omega)]
          · rw [er13 _ _ (Or.inr hwn), g11 w hw]
            by_cases hi2 : w < n'
            · rw [if_pos hi2, if_pos (by omega)]
            · rw [if_neg hi2, if_neg (by omega)]
        · by_cases hwn : w = n'
          · subst hwn
            exact ⟨d, hh, by omega, l16, l17, er16n, e162, hd1, by omega, e160, hh1, hh2⟩
          · exact (g13 w (by omega)).to lm (er16 _ _ (by omega)) (fun j => (e16 _ j (by omega)).1)
      · exact (f7 r' hr').to (Nat.le_refl _) lm (fun w hw q => ⟨(ln2 _ _ (by omega)).trans q.1, (ln2 _ _ (by omega)).trans q.2⟩) (fun _ => er _ _ _ (by decide) (by decide) (by decide)) (er _ _ _ (by decide) (by decide) (by decide)) (fun _ _ => er13 _ _ (Or.inl hrr)) (fun w hw => er16 _ _ (by omega)) (fun _ _ => er _ _ _ (by decide) (by decide) (by decide)) (fun j => e12 _ _ (Or.inl hrr)) (fun _ => e _ _ _ (by decide)) (fun _ => e _ _ _ (by decide)) (fun w j hw => (e16 _ j (by omega)).1) (fun w j hw => (e16 _ j (by omega)).2) (fun _ _ => e _ _ _ (by decide)) (fun l k _ hk => ⟨k, Nat.le_refl _, (e _ _ _ (by decide)).trans hk⟩) (fun _ _ _ _ => e _ _ _ (by decide))
theorem k_wall_f {r n d hh : Nat} (h : INV A iv rv np nr nl) (hr : r < 4) (hn9 : iv 12 r 2 = nI n) (hn : n ≤ 4) (hf : ¬ (rv 12 r 3 = none ∧ n < 4)) (hd1 : 1 ≤ d) (hd2 : d ≤ 12) (hh1 : 1 ≤ hh) (hh2 : hh ≤ 60) : F_X7_wall (A.1 0 0) (nI r) (nI d) (nI hh) (z, hv A iv rv ov) = tht IS (z, hv A iv rv ov) := by
  have hA := h.1
  obtain ⟨⟨t0, -⟩, -⟩ := id h.2.1
  obtain ⟨g1, g2, g3, g4, g5, g6, g7, n', g8, g9, g11, g12, g13, g14⟩ := h.2.2.2.2.2.2 r hr
  have en : n' = n := nI_inj (by omega) (by omega) (g9.symm.trans hn9)
  subst en
  unfold F_X7_wall
  rw [isO_hv hA t0 (by rfl) (by decide), roomAt_in h hr, bnd_v, req_in (show inR (nI d) 1 12 from rg_to (a := 1) (b := 12) hd1 hd2 (by decide)), bnd_v, req_in (show inR (nI hh) 1 60 from rg_to (a := 1) (b := 60) hh1 hh2 (by decide)), bnd_v, isO_hv hA g1 (by rfl) (by decide)]
  rcases g14 with b1 | ⟨l, a, q1, b2, c⟩
  · rw [cHung_n hA g1 b1, bnd_v, if_pos rfl, isO_hv hA g1 (by rfl) (by decide)]
    unfold F_X5_addWall
    rw [gfI_hv hA g1 (by rfl) (by decide) (by rfl), g9, if_neg (nI_pos (by omega)), gfR_hv hA g1 (by rfl) (by decide) (by rfl), g5, rfv_s, nn_s, alen_R (k := 4) hA g2 (by rfl) (by decide), show kn 13 = 4 from rfl, if_neg (nI_nlt (Classical.byContradiction fun q => hf ⟨b1, by omega⟩) (by omega)), bnd_v, if_pos rfl]
  · rw [cHung_s hA g1 b2, bnd_v, if_neg (by decide)]
theorem k_wall_x {v a b : Int32} (h : INV A iv rv np nr nl) (hx : ¬ ∃ j, j < 4 ∧ v = nI j) : F_X7_wall (A.1 0 0) v a b (z, hv A iv rv ov) = tht IX (z, hv A iv rv ov) := by
  have hA := h.1
  obtain ⟨⟨t0, -⟩, -⟩ := id h.2.1
  unfold F_X7_wall
  rw [isO_hv hA t0 (by rfl) (by decide), roomAt_out h hx, bnd_t]
theorem k_wall_w {r : Nat} {v2 v3 : Int32} (h : INV A iv rv np nr nl) (hr : r < 4) (hrg : ¬ (inR v2 1 12 ∧ inR v3 1 60)) : F_X7_wall (A.1 0 0) (nI r) v2 v3 (z, hv A iv rv ov) = tht IA (z, hv A iv rv ov) := by
  have hA := h.1
  obtain ⟨⟨t0, -⟩, -⟩ := id h.2.1
  unfold F_X7_wall
  rw [isO_hv hA t0 (by rfl) (by decide), roomAt_in h hr, bnd_v]
  by_cases q2 : inR v2 1 12
  · rw [req_in q2, bnd_v]
    by_cases q3 : inR v3 1 60
    · exact absurd ⟨q2, q3⟩ hrg
    · rw [req_out q3, bnd_t]
  · rw [req_out q2, bnd_t]
end LO
