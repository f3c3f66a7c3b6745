/-! what stays where it was; paint, strip -/
/-- objects that were there stay there; patterns, engravings' sizes and the law's own arrays are as they were -/
def FRK (A : Adr) (iv : IVt) (rv : RVt) (A' : Adr) (iv' : IVt) (rv' : RVt) : Prop := (∀ T i, A.2.2 T i = true → A'.2.2 T i = true ∧ A'.1 T i = A.1 T i) ∧ (∀ T i j, T = 5 ∨ T = 6 ∨ T = 9 ∨ T = 18 ∨ T = 19 → A.2.2 T i = true → iv' T i j = iv T i j) ∧ ∀ T i j, T = 5 ∨ T = 6 → A.2.2 T i = true → rv' T i j = rv T i j
/-- how many walls there are, how high they are -/
def FRW (iv iv' : IVt) : Prop := (∀ i, iv' 12 i 2 = iv 12 i 2) ∧ ∀ i, iv' 16 i 0 = iv 16 i 0
theorem FRK.iv {A : Adr} {iv iv' : IVt} {rv rv' : RVt} (h : ∀ T i j, T = 5 ∨ T = 6 ∨ T = 9 ∨ T = 18 ∨ T = 19 → iv' T i j = iv T i j) (hr : ∀ T i j, T ≠ 12 → rv' T i j = rv T i j) : FRK A iv rv A iv' rv' := ⟨fun _ _ q => ⟨q, rfl⟩, fun T i j q _ => h T i j q, fun T i j q _ => hr T i j (by omega)⟩
theorem RFA.nul {A : Adr} {rv : RVt} {T i j : Nat} (h : RFA A rv) : RFA A (u3 rv T i j none) := by
  intro a b c q h1 h2
  by_cases w : a = T ∧ b = i ∧ c = j
  · rw [w.1, w.2.1, w.2.2, u3_s] at h2
    cases h2
  · rw [u3_n w] at h2
    exact h a b c q h1 h2
theorem RFA.ref {A : Adr} {rv : RVt} {T i j T' i' : Nat} (h : RFA A rv) (hl : A.2.2 T' i' = true) : RFA A (u3 rv T i j (some (T', i'))) := by
  intro a b c q h1 h2
  by_cases w : a = T ∧ b = i ∧ c = j
  · rw [w.1, w.2.1, w.2.2, u3_s] at h2
    cases h2
    exact hl
  · rw [u3_n w] at h2
    exact h a b c q h1 h2
section PA
variable {A : Adr} {iv : IVt} {rv : RVt} {ov : Nat → Int64} {z np nr nl : Nat}
theorem holds_spec {T U i c r : Nat} {x y : Int32} (hA : IN A) (h : CEL A iv rv T U i c r) : ((∃ a, a < c ∧ x = nI a) → (∃ b, b < r ∧ y = nI b) → F_X0_holds (A.1 T i) x y (z, hv A iv rv ov) = rtv 1 (z, hv A iv rv ov)) ∧ ((¬ ∃ a, a < c ∧ x = nI a) ∨ (¬ ∃ b, b < r ∧ y = nI b) → F_X0_holds (A.1 T i) x y (z, hv A iv rv ov) = rtv 0 (z, hv A iv rv ov)) := by
  obtain ⟨h1, h2, h3, h4, h5, h6, h7, h8, h9, h10, h11, h12⟩ := h
  unfold F_X0_holds F_X0_holds_b28
  rw [gfI_hv hA h1 h3 (by decide) (by rfl), h7, gfI_hv hA h1 h3 (by decide) (by rfl), h8]
  refine ⟨?_, ?_⟩
  · rintro ⟨a, ha, rfl⟩ ⟨b, hb, rfl⟩
    rw [if_neg (nI_pos (by omega)), if_neg (nI_ge ha (by omega)), if_neg (nI_pos (by omega)), if_neg (nI_ge hb (by omega))]
    rfl
  · intro q
    by_cases u1 : x < 0
    · rw [if_pos u1]
      rfl
    by_cases u2 : nI c ≤ x
    · rw [if_neg u1, if_pos u2]
      rfl
    by_cases u3 : y < 0
    · rw [if_neg u1, if_neg u2, if_pos u3]
      rfl
    by_cases u4 : nI r ≤ y
    · rw [if_neg u1, if_neg u2, if_neg u3, if_pos u4]
      rfl
    exfalso
    rcases q with q | q
    · rcases ix_cases x (n := c) (by omega) with ⟨-, -, w⟩ | ⟨j, w1, w2, -⟩
      · exact w.elim u1 u2
      · exact q ⟨j, w1, w2⟩
    · rcases ix_cases y (n := r) (by omega) with ⟨-, -, w⟩ | ⟨j, w1, w2, -⟩
      · exact w.elim u3 u4
      · exact q ⟨j, w1, w2⟩
theorem k_paint {j w hh s X Y c : Nat} (h : INV A iv rv np nr nl) (hj : j < np) (hP : PAT A iv rv j w hh s) (hX : X < w) (hY : Y < hh) (hc : c ≤ 7) : F_X7_paint (A.1 0 0) (nI j) (nI X) (nI Y) (nI c) (z, hv A iv rv ov) = rtv (iv 7 j (Y * w + X)) (z, hv A (u3 iv 7 j (Y * w + X) (nI c)) rv ov) ∧ INV A (u3 iv 7 j (Y * w + X) (nI c)) rv np nr nl := by
  have hA := h.1
  obtain ⟨⟨t0, -⟩, -⟩ := id h.2.1
  obtain ⟨a1, a2, a3, a4, a5, a6, a7, a8, a9, a10⟩ := id hP
  have hol := (holds_spec (z := z) (ov := ov) (x := nI X) (y := nI Y) hA a2).1 ⟨X, hX, rfl⟩ ⟨Y, hY, rfl⟩
  have hcat := cat_spec (z := z) (ov := ov) (x := nI X) (y := nI Y) hA a2
  have hput := put_spec (z := z) (ov := ov) (x := nI X) (y := nI Y) (v := nI c) hA a2
  rw [wm_small hX (by omega), wm_small hY (by omega)] at hcat hput
  refine ⟨?_, ?_⟩
  · unfold F_X7_paint
    rw [isO_hv hA t0 (by rfl) (by decide), patAt_in h hj, bnd_v, gfR_hv hA a1 (by rfl) (by decide) (by rfl), a3, rfv_s, nn_s, isO_hv hA a2.1 (by rfl) (by decide), hol, bnd_v, if_neg (by decide), req_in (show inR (nI c) 0 7 from rg_to (a := 0) (b := 7) (Nat.zero_le _) hc (by decide)), bnd_v, gfR_hv hA a1 (by rfl) (by decide) (by rfl), a3, rfv_s, nn_s, isO_hv hA a2.1 (by rfl) (by decide), hcat, bnd_v, gfR_hv hA a1 (by rfl) (by decide) (by rfl), a3, rfv_s, nn_s, isO_hv hA a2.1 (by rfl) (by decide), hput, bnd_v]
  · have e : ∀ T i k, T ≠ 7 → u3 iv 7 j (Y * w + X) (nI c) T i k = iv T i k := fun T i k q => u3_T q
    refine h.same (fun j _ => e _ _ _ (by decide)) (fun T i j q => e _ _ _ (by omega)) (fun i hi k => ?_) (fun _ _ _ _ => rfl) (fun i hi => (h.2.2.2.2.2.1 i hi).to (Nat.le_refl _) (fun _ _ q => q) rfl (fun _ => e _ _ _ (by decide))) (fun r hr => (h.2.2.2.2.2.2 r hr).to (Nat.le_refl _) (fun _ _ q => q) (fun _ _ q => q) (fun _ => rfl) rfl (fun _ _ => rfl) (fun _ _ => rfl) (fun _ _ => rfl) ?_ ?_ ?_ ?_ ?_ ?_ (fun l k _ hk => ⟨k, Nat.le_refl _, (e _ _ _ (by decide)).trans hk⟩) ?_)
    · by_cases g : i = j ∧ k = Y * w + X
      · rw [g.1, g.2, u3_s]
        exact ⟨c, hc, rfl⟩
      · rw [u3_n (by omega)]
        obtain ⟨w', h', s', p1, p2⟩ := h.2.2.2.1 i hi
        exact p2 k
    all_goals intros
    all_goals exact e _ _ _ (by decide)
theorem k_paint_x {v x y c : Int32} (h : INV A iv rv np nr nl) (hx : ¬ ∃ j, j < np ∧ v = nI j) : F_X7_paint (A.1 0 0) v x y c (z, hv A iv rv ov) = tht IX (z, hv A iv rv ov) := by
  have hA := h.1
  obtain ⟨⟨t0, -⟩, -⟩ := id h.2.1
  unfold F_X7_paint
  rw [isO_hv hA t0 (by rfl) (by decide), patAt_out h hx, bnd_t]
theorem k_paint_c {j w hh s : Nat} {x y c : Int32} (h : INV A iv rv np nr nl) (hj : j < np) (hP : PAT A iv rv j w hh s) (hc : (¬ ∃ a, a < w ∧ x = nI a) ∨ (¬ ∃ b, b < hh ∧ y = nI b)) : F_X7_paint (A.1 0 0) (nI j) x y c (z, hv A iv rv ov) = tht IX (z, hv A iv rv ov) := by
  have hA := h.1
  obtain ⟨⟨t0, -⟩, -⟩ := id h.2.1
  obtain ⟨a1, a2, a3, -⟩ := id hP
  unfold F_X7_paint
  rw [isO_hv hA t0 (by rfl) (by decide), patAt_in h hj, bnd_v, gfR_hv hA a1 (by rfl) (by decide) (by rfl), a3, rfv_s, nn_s, isO_hv hA a2.1 (by rfl) (by decide), (holds_spec hA a2).2 hc, bnd_v, if_pos rfl]
theorem k_paint_w {j w hh s X Y : Nat} {c : Int32} (h : INV A iv rv np nr nl) (hj : j < np) (hP : PAT A iv rv j w hh s) (hX : X < w) (hY : Y < hh) (hc : ¬ inR c 0 7) : F_X7_paint (A.1 0 0) (nI j) (nI X) (nI Y) c (z, hv A iv rv ov) = tht IA (z, hv A iv rv ov) := by
  have hA := h.1
  obtain ⟨⟨t0, -⟩, -⟩ := id h.2.1
  obtain ⟨a1, a2, a3, -⟩ := id hP
  unfold F_X7_paint
  rw [isO_hv hA t0 (by rfl) (by decide), patAt_in h hj, bnd_v, gfR_hv hA a1 (by rfl) (by decide) (by rfl), a3, rfv_s, nn_s, isO_hv hA a2.1 (by rfl) (by decide), (holds_spec hA a2).1 ⟨X, hX, rfl⟩ ⟨Y, hY, rfl⟩, bnd_v, if_neg (by decide), req_out hc, bnd_t]
/-- the class's loss: o rolls of the lot l -/
theorem lose_spec {l : Nat} {x : Int32} (hA : IN A) (t0 : A.2.2 0 0 = true) (hl : A.2.2 11 l = true) : F_X7_lose (A.1 0 0) (A.1 11 l) x (z, hv A iv rv ov) = rtv () (z, hv A (u3 iv 0 0 7 (iv 0 0 7 + x * iv 11 l 3)) rv ov) := by
  unfold F_X7_lose
  rw [gfI_hv hA t0 (by rfl) (by decide) (by rfl), gfI_hv hA hl (by rfl) (by decide) (by rfl), pf_hv hA t0 (by rfl) (by decide) (by rfl)]
theorem bare_spec {r : Nat} (hA : IN A) (h12 : A.2.2 12 r = true) : F_X5_makeBare (A.1 12 r) (z, hv A iv rv ov) = rtv () (z, hv A iv (u3 rv 12 r 3 none) ov) := by
  unfold F_X5_makeBare
  rw [pfN_hv hA h12 (by rfl) (by decide) (by rfl)]
/-- a room made bare; what its rolls, its cuts and what was lost hold doesn't count -/
theorem INV.bared {iv2 : IVt} {r : Nat} (h : INV A iv rv np nr nl) (hr : r < 4) (e0 : ∀ j, j ≠ 7 → iv2 0 0 j = iv 0 0 j) (he : ∀ T i j, T ≠ 0 → ¬ (T = 14 ∧ i = r) → ¬ (T = 15 ∧ i = r) → ¬ (T = 17 ∧ 4 * r ≤ i ∧ i < 4 * r + 4) → ¬ (T = 16 ∧ 4 * r ≤ i ∧ i < 4 * r + 4 ∧ j = 2) → iv2 T i j = iv T i j) (h16 : ∀ w D, w < 4 → iv 16 (4 * r + w) 2 = nI D → 1 ≤ D → D ≤ 24 → ∃ D', iv2 16 (4 * r + w) 2 = nI D' ∧ 1 ≤ D' ∧ D' ≤ 24) : INV A iv2 (u3 rv 12 r 3 none) np nr nl := by
  have e : ∀ T i j, T ≠ 0 ∧ T ≠ 14 ∧ T ≠ 15 ∧ T ≠ 16 ∧ T ≠ 17 → iv2 T i j = iv T i j := fun T i j q => he T i j q.1 (fun w => q.2.1 w.1) (fun w => q.2.2.1 w.1) (fun w => q.2.2.2.2 w.1) (fun w => q.2.2.2.1 w.1)
  have er : ∀ T i j, T ≠ 12 → u3 rv 12 r 3 none T i j = rv T i j := fun T i j q => u3_T q
  refine h.same e0 (fun T i j q => e _ _ _ (by omega)) (fun i hi => (h.2.2.2.1 i hi).col (fun j => e _ _ _ (by decide))) er (fun i hi => (h.2.2.2.2.2.1 i hi).to (Nat.le_refl _) (fun _ _ q => q) (er _ _ _ (by decide)) (fun _ => e _ _ _ (by decide))) (fun r' hr' => ?_)
  by_cases hrr : r' = r
  · subst hrr
    obtain ⟨a1, a2, a3, a4, a5, a6, a7, n, a8, a9, a11, a12, a13, a14⟩ := h.2.2.2.2.2.2 r' hr'
    refine ⟨a1, a2, a3, a4, (u3_n (by omega)).trans a5, (u3_n (by omega)).trans a6, (er _ _ _ (by decide)).trans a7, n, a8, (e _ _ _ (by decide)).trans a9, fun w hw => (er _ _ _ (by decide)).trans (a11 w hw), a12, fun w hw => ?_, Or.inl u3_s⟩
    obtain ⟨d, hh, w1, w2, w3, w4, w5, w7, w8, w9, w11⟩ := a13 w hw
    obtain ⟨D', q1, q2, q3⟩ := h16 w d (by omega) w5 w7 w8
    exact ⟨D', hh, w1, w2, w3, (er _ _ _ (by decide)).trans w4, q1, q2, q3, (he _ _ _ (by decide) (by omega) (by omega) (by omega) (by omega)).trans w9, w11⟩
  · refine (h.2.2.2.2.2.2 r' hr').to (Nat.le_refl _) (fun _ _ q => q) (fun _ _ q => q) (fun _ => u3_n (fun q => hrr q.2.1)) (er _ _ _ (by decide)) (fun _ _ => er _ _ _ (by decide)) (fun _ _ => er _ _ _ (by decide)) (fun _ _ => er _ _ _ (by decide)) (fun j => e _ _ _ (by decide)) (fun j => he _ _ _ (by decide) (by omega) (by omega) (by omega) (by omega)) (fun j => he _ _ _ (by decide) (by omega) (by omega) (by omega) (by omega)) (fun w j hw => he _ _ _ (by decide) (by omega) (by omega) (by omega) (by omega)) (fun w j hw => he _ _ _ (by decide) (by omega) (by omega) (by omega) (by omega)) ?_ (fun l k _ hk => ⟨k, Nat.le_refl _, (e _ _ _ (by decide)).trans hk⟩) ?_ <;> intros <;> exact e _ _ _ (by decide)
theorem k_strip {r l : Nat} (h : INV A iv rv np nr nl) (hr : r < 4) (hl : l < nl) (b2 : rv 12 r 3 = some (11, l)) : F_X7_strip (A.1 0 0) (nI r) (z, hv A iv rv ov) = rtv (iv 14 r 1) (z, hv A (u3 iv 0 0 7 (iv 0 0 7 + iv 14 r 1 * iv 11 l 3)) (u3 rv 12 r 3 none) ov) ∧ INV A (u3 iv 0 0 7 (iv 0 0 7 + iv 14 r 1 * iv 11 l 3)) (u3 rv 12 r 3 none) np nr nl := by
  have hA := h.1
  obtain ⟨⟨t0, -⟩, -⟩ := id h.2.1
  obtain ⟨g1, g2, g3, g4, g5, g6, g7, -⟩ := h.2.2.2.2.2.2 r hr
  obtain ⟨q, k, L, p1, p2, p3, -⟩ := h.2.2.2.2.2.1 l hl
  refine ⟨?_, h.bared hr (fun j hj => u3_n (by omega)) (fun T i j x1 _ _ _ _ => u3_T x1) (fun w D hw q1 q2 q3 => ⟨D, (u3_T (by decide)).trans q1, q2, q3⟩)⟩
  unfold F_X7_strip
  rw [isO_hv hA t0 (by rfl) (by decide), roomAt_in h hr, bnd_v, gfR_hv hA g1 (by rfl) (by decide) (by rfl), b2, rfv_s, nlc_s, gfR_hv hA g1 (by rfl) (by decide) (by rfl), g6, rfv_s, nn_s, gfI_hv hA g3 (by rfl) (by decide) (by rfl), isO_hv hA t0 (by rfl) (by decide), lose_spec hA t0 p3, bnd_v, isO_hv hA g1 (by rfl) (by decide), bare_spec hA g1, bnd_v]
theorem k_strip_n {r : Nat} (h : INV A iv rv np nr nl) (hr : r < 4) (b1 : rv 12 r 3 = none) : F_X7_strip (A.1 0 0) (nI r) (z, hv A iv rv ov) = tht IS (z, hv A iv rv ov) := by
  have hA := h.1
  obtain ⟨⟨t0, -⟩, -⟩ := id h.2.1
  obtain ⟨g1, -⟩ := h.2.2.2.2.2.2 r hr
  unfold F_X7_strip
  rw [isO_hv hA t0 (by rfl) (by decide), roomAt_in h hr, bnd_v, gfR_hv hA g1 (by rfl) (by decide) (by rfl), b1, rfv_n, nlc_n]
theorem k_strip_x {v : Int32} (h : INV A iv rv np nr nl) (hx : ¬ ∃ j, j < 4 ∧ v = nI j) : F_X7_strip (A.1 0 0) v (z, hv A iv rv ov) = tht IX (z, hv A iv rv ov) := by
  have hA := h.1
  obtain ⟨⟨t0, -⟩, -⟩ := id h.2.1
  unfold F_X7_strip
  rw [isO_hv hA t0 (by rfl) (by decide), roomAt_out h hx, bnd_t]
end PA
