/-! a new object: the invariant; every call keeps it -/
theorem dead_A {z0 T i : Nat} (hT : ∀ k, k < 44 → (KL.getD k (99, 99)).1 ≠ T) : (AS z0 44).2.2 T i = false := dead_T hT
theorem rvR_T {rv : RVt} {r T i j : Nat} (h : T ≠ 4 ∧ T ≠ 12 ∧ T ≠ 14) : rvR r rv T i j = rv T i j := by
  unfold rvR
  rw [u3_T h.1, u3_T h.2.1, u3_T h.2.2, u3_T h.2.1]
theorem rfa_0 {A : Adr} : RFA A rv0 := fun _ _ _ _ _ h => by cases h
theorem rfa_8 {z0 : Nat} : RFA (AS z0 44) rv8 := by
  have l : ∀ T i, liv 44 T i = true → (AS z0 44).2.2 T i = true := fun _ _ h => h
  unfold rv8 rv7 rvR rvP
  repeat' first | exact rfa_0 | refine RFA.ref ?_ (l _ _ (by decide +kernel))
theorem top_f1 : liv 44 0 0 = true ∧ liv 44 1 0 = true ∧ liv 44 2 0 = true ∧ liv 44 3 0 = true ∧ liv 44 4 0 = true := by decide +kernel
theorem top_f2 : rv8 0 0 0 = some (1, 0) ∧ rv8 0 0 2 = some (2, 0) ∧ rv8 0 0 4 = some (3, 0) ∧ rv8 0 0 6 = some (4, 0) := by decide +kernel
theorem top_f3 : (∀ i, i < 6 → rv8 1 0 i = none) ∧ (∀ i, i < 8 → rv8 2 0 i = none) ∧ (∀ i, i < 10 → rv8 3 0 i = none) ∧ ∀ i, i < 4 → rv8 4 0 i = some (12, i) := by decide +kernel
theorem key_T : ∀ k, k < 44 → (KL.getD k (99, 99)).1 ≠ 5 ∧ (KL.getD k (99, 99)).1 ≠ 6 ∧ (KL.getD k (99, 99)).1 ≠ 7 ∧ (KL.getD k (99, 99)).1 ≠ 8 ∧ (KL.getD k (99, 99)).1 ≠ 9 ∧ (KL.getD k (99, 99)).1 ≠ 10 ∧ (KL.getD k (99, 99)).1 ≠ 11 ∧ (KL.getD k (99, 99)).1 ≠ 16 ∧ (KL.getD k (99, 99)).1 ≠ 17 ∧ ((KL.getD k (99, 99)).1 = 18 → (KL.getD k (99, 99)).2 = 0) := by decide +kernel
theorem room_f : ∀ r, r < 4 → (liv 44 12 r = true ∧ liv 44 13 r = true ∧ liv 44 14 r = true ∧ liv 44 15 r = true ∧ rv8 12 r 0 = some (13, r) ∧ rv8 12 r 1 = some (14, r) ∧ rv8 14 r 0 = some (15, r)) ∧ iv8 12 r 2 = 0 ∧ iv8 32 0 r = 0 ∧ rv8 12 r 3 = none ∧ iv8 35 0 r = -1 ∧ ∀ w, w < 4 → rv8 13 r w = none := by decide +kernel
theorem cnt_f : iv8 0 0 1 = 0 ∧ iv8 20 0 1 = 0 ∧ iv8 0 0 3 = 0 ∧ iv8 20 0 6 = 0 ∧ iv8 0 0 5 = 0 ∧ iv8 20 0 10 = 0 ∧ iv8 20 0 28 = iv8 0 0 7 := by decide +kernel
theorem inv_8 {z0 : Nat} : INV (AS z0 44) iv8 rv8 0 0 0 := by
  obtain ⟨a1, a2, a3, a4⟩ := top_f3
  obtain ⟨b1, b2, b3, b4, b5, b6, b7⟩ := cnt_f
  refine ⟨md44, ⟨top_f1, top_f2, fun i hi => (a1 i hi).trans (if_neg (Nat.not_lt_zero i)).symm, fun i hi => (a2 i hi).trans (if_neg (Nat.not_lt_zero i)).symm, fun i hi => (a3 i hi).trans (if_neg (Nat.not_lt_zero i)).symm, a4, fun i _ => ⟨dead_A (fun k hk => (key_T k hk).1), dead_A (fun k hk => (key_T k hk).2.1), dead_A (fun k hk => (key_T k hk).2.2.1)⟩, fun i _ => ⟨dead_A (fun k hk => (key_T k hk).2.2.2.1), dead_A (fun k hk => (key_T k hk).2.2.2.2.1), dead_A (fun k hk => (key_T k hk).2.2.2.2.2.1)⟩, fun i _ => dead_A (fun k hk => (key_T k hk).2.2.2.2.2.2.1), (show liv 44 18 0 = true by decide +kernel), fun i hi => ?_⟩, ⟨b1, b2, by decide, b3, b4, by decide, b5, b6, by decide, b7, fun k _ => ?_⟩, fun i hi => absurd hi (Nat.not_lt_zero i), fun i hi => absurd hi (Nat.not_lt_zero i), fun i hi => absurd hi (Nat.not_lt_zero i), fun r hr => ?_⟩
  · obtain ⟨k, h1, h2⟩ := liv_k hi
    have h3 := (key_T k h1).2.2.2.2.2.2.2.2.2
    rw [h2] at h3
    exact h3 rfl
  · unfold iv8
    rw [u3_T (by decide), u3_T (by decide), u3_T (by decide), u3_T (by decide)]
    rfl
  · obtain ⟨⟨c1, c2, c3, c4, c5, c6, c7⟩, d1, d2, d3, d4, d5⟩ := room_f r hr
    exact ⟨c1, c2, c3, c4, c5, c6, c7, 0, by decide, d1, d2, fun w hw => (d5 w hw).trans (if_neg (Nat.not_lt_zero w)).symm, fun w _ _ => ⟨dead_A (fun k hk => (key_T k hk).2.2.2.2.2.2.2.1), dead_A (fun k hk => (key_T k hk).2.2.2.2.2.2.2.2.1)⟩, fun w hw => absurd hw (Nat.not_lt_zero w), Or.inl ⟨d3, d4⟩⟩
theorem start_IV : START IV := by
  intro z0
  have e0 : (z0, (fun _ => none : Nat → Option va_E)) = (z0 + 0, hv (AS z0 0) iv0 rv0 ov0) := by
    refine congrArg (Prod.mk z0) (funext fun b => ?_)
    unfold hv
    exact (if_neg (fun q => by
      have h : off (KL.getD (b - z0) (99, 99)).1 (KL.getD (b - z0) (99, 99)).2 < 0 := of_decide_eq_true q.1
      exact Nat.not_lt_zero _ h)).symm
  have p1 : hpush (z0, fun _ => none) (oO 7 [.null, .int 0, .null, .int 0, .null, .int 0, .null, .int 0]) = (z0 + (0 + 1), hv (AS z0 (0 + 1)) iv0 rv0 ov0) := by
    rw [e0]
    exact push_st (T := 0) (i := 0) (by decide) (by decide +kernel) (contO_st (by rfl) (by decide) (by rfl) (fun _ => rfl) (fun _ => rfl))
  have p2 : hpush (z0 + 21, hv (AS z0 21) iv0 rv7 ov0) (oO 8 [.int 0, .int 0, .null, .null, .null, .null, .int 0, .null, .null, .null, .int 0, .null, .null, .null, .null, .null, .null, .null, .null, .null, .null, .null, .null, .int 0, .int 0, .int 0, .null, .null, .int 0]) = (z0 + (21 + 1), hv (AS z0 (21 + 1)) iv0 rv7 ov0) := by
    refine push_st (T := 20) (i := 0) (by decide) (by decide +kernel) (contO_st (by rfl) (by decide) (by rfl) (fun _ => rfl) (fun j => ?_))
    unfold rv7
    rw [rvR_T (by decide), rvR_T (by decide), rvR_T (by decide), rvR_T (by decide)]
    exact rvP_o (by decide)
  have p3 : hpush (z0 + 43, hv (AS z0 43) iv8 rv8 ov0) (oL 1 (fun _ => 0)) = (z0 + (43 + 1), hv (AS z0 (43 + 1)) iv8 rv8 ov0) := by
    refine push_st (T := 18) (i := 0) (by decide) (by decide +kernel) ?_
    rw [show ad z0 = (AS z0 43).1 from rfl, cont_L (by rfl)]
    rfl
  refine ⟨(z0 + 21, hv (AS z0 21) iv0 rv7 ov0), (z0 + 43, hv (AS z0 43) iv8 rv8 ov0), ?_, ?_, ?_⟩
  · rw [p1]
    exact new7
  · rw [p2]
    exact new8
  · rw [p3]
    exact ⟨AS z0 44, iv8, rv8, ov0, 0, 0, 0, rfl, rfa_8, rfl, rfl, rfl, inv_8⟩
theorem iv_obj : ∀ ax am ao g, IV ax am ao g → (∃ fs, g ax = some (.inr (7, fs))) ∧ (∃ fs, g am = some (.inr (8, fs))) := by
  rintro ax am ao g ⟨A, iv, rv, ov, np, nr, nl, rfl, hF, rfl, rfl, rfl, h⟩
  refine ⟨?_, md_at h.1⟩
  rw [hv_at h.1.1 h.2.1.1.1, cont_O (ci := 7) (by rfl) (by decide)]
  exact ⟨_, rfl⟩
theorem steps_IV : ∀ ax am ao z g, IV ax am ao g → (∀ a e, g a = some e → a < z) → SCs (IV ax am ao) ax am ao z g := by
  rintro ax am ao z g ⟨A, iv, rv, ov, np, nr, nl, rfl, hF, rfl, rfl, rfl, h⟩ hz
  exact ⟨fun _ _ _ => sc0 h hF hz, fun _ _ _ _ => sc1 h hF, fun _ _ _ => sc2 h hF, fun _ _ => sc3 h hF, fun _ _ => sc4 h hF, fun _ _ => sc5 h hF hz, fun _ _ _ _ => sc6 h hF hz, fun _ _ => sc7 h hF, fun _ _ _ => sc8 h hF hz, fun _ _ => sc9 h hF, fun _ _ _ => sc10 h hF, fun _ => sc11 h hF, fun _ _ => sc12 h hF, fun _ _ _ => sc13 h hF, fun _ _ _ _ => sc14 h hF, sc15 h hF⟩
