/-! roller -/
section RO
variable {A : Adr} {rv : RVt} {np nr nl : Nat}
theorem draw28 {i w h s t y : Nat} (hA : IN A) (hy : y < rrM h s) (c : Nat → Nat → Int32) (K : Nat → Nat → Int32 → hpT → Rs Nat) : ∀ n x, x ≤ rcM w s → rcM w s < x + n → ∀ (z : Nat) (iv : IVt) (ov : Nat → Int64), PAT A iv rv i w h s → CEL A iv rv 9 10 t (rcM w s) (rrM h s) → (∀ a b, pcN (cF iv i w) w h s a b = c a b) →
    ∃ iv', F_X3_drawn_b28 K n (A.1 5 i) (A.1 9 t) (nI y) (nI x) (z, hv A iv rv ov) = K (A.1 5 i) (A.1 9 t) (nI (y + 1)) (z, hv A iv' rv ov) ∧ (∀ T a b, ¬ (T = 10 ∧ a = t) → iv' T a b = iv T a b) ∧ (∀ x', x ≤ x' → x' < rcM w s → iv' 10 t (y * rcM w s + x') = c x' y) ∧ ∀ j, j < y * rcM w s + x → iv' 10 t j = iv 10 t j := by
  intro n
  induction n with
  | zero => intro x h1 h2; omega
  | succ n ih =>
    intro x hx hn z iv ov hP hC hc
    obtain ⟨h1, h2, h3, h4, h5, h6, h7, h8, h9, h10⟩ := id hP
    obtain ⟨e1, e2, e3, e4, e5, e6, e7, e8, e9, e10, e11, e12⟩ := id hC
    unfold F_X3_drawn_b28
    rw [gfI_hv hA h1 (by rfl) (by decide) (by rfl), h5]
    by_cases q : rcM w s ≤ x
    · rw [if_pos (nI_le q (by omega)), nI_1]
      exact ⟨iv, rfl, fun _ _ _ _ => rfl, fun x' a b => by omega, fun _ _ => rfl⟩
    · have hput := put_spec (z := z) (ov := ov) (x := nI x) (y := nI y) (v := pcN (cF iv i w) w h s (x % rcM w s) (y % rrM h s)) hA hC
      rw [wm_small (show x < rcM w s by omega) (by omega), wm_small hy (by omega)] at hput
      rw [if_neg (nI_ge (by omega) (by omega)), isO_hv hA h1 (by rfl) (by decide), pcn_spec hA hP (by omega) (by omega), bnd_v, isO_hv hA e1 (by rfl) (by decide), hput, bnd_v, nI_1]
      rw [Nat.mod_eq_of_lt (show x < rcM w s by omega), Nat.mod_eq_of_lt hy, hc x y]
      have P' : PAT A (u3 iv 10 t (y * rcM w s + x) (c x y)) rv i w h s := hP.to (fun _ _ q => q) rfl rfl (fun j => u3_T (by decide)) (fun j => u3_T (by decide))
      have C' : CEL A (u3 iv 10 t (y * rcM w s + x) (c x y)) rv 9 10 t (rcM w s) (rrM h s) := hC.to (fun _ _ q => q) rfl (u3_T (by decide)) (u3_T (by decide))
      have c' : ∀ a b, pcN (cF (u3 iv 10 t (y * rcM w s + x) (c x y)) i w) w h s a b = c a b := by
        intro a b
        rw [← hc a b]
        unfold cF
        rw [u3_tag (by decide)]
      obtain ⟨iv', i1, i2, i3, i4⟩ := ih (x + 1) (by omega) (by omega) z _ ov P' C' c'
      refine ⟨iv', i1, fun T a b hT => (i2 T a b hT).trans (u3_n (fun q => hT ⟨q.1, q.2.1⟩)), fun x' a b => ?_, fun j hj => (i4 j (by omega)).trans (u3_n (by omega))⟩
      by_cases g : x' = x
      · subst g
        rw [i4 _ (by omega), u3_s]
      · exact i3 x' (by omega) b
theorem draw18 {i w h s t : Nat} (hA : IN A) (c : Nat → Nat → Int32) : ∀ n y, y ≤ rrM h s → rrM h s < y + n → ∀ (z : Nat) (iv : IVt) (ov : Nat → Int64), PAT A iv rv i w h s → CEL A iv rv 9 10 t (rcM w s) (rrM h s) → (∀ a b, pcN (cF iv i w) w h s a b = c a b) →
    ∃ iv', F_X3_drawn_b18 n (A.1 5 i) (A.1 9 t) (nI y) (z, hv A iv rv ov) = rtv (A.1 9 t) (z, hv A iv' rv ov) ∧ (∀ T a b, ¬ (T = 10 ∧ a = t) → iv' T a b = iv T a b) ∧ (∀ y' x', y ≤ y' → y' < rrM h s → x' < rcM w s → iv' 10 t (y' * rcM w s + x') = c x' y') ∧ ∀ j, j < y * rcM w s → iv' 10 t j = iv 10 t j := by
  intro n
  induction n with
  | zero => intro y h1 h2; omega
  | succ n ih =>
    intro y hy hn z iv ov hP hC hc
    obtain ⟨h1, h2, h3, h4, h5, h6, h7, h8, h9, h10⟩ := id hP
    obtain ⟨e1, e2, e3, e4, e5, e6, e7, e8, e9, e10, e11, e12⟩ := id hC
    unfold F_X3_drawn_b18
    rw [gfI_hv hA h1 (by rfl) (by decide) (by rfl), h6]
    by_cases q : rrM h s ≤ y
    · rw [if_pos (nI_le q (by omega))]
      exact ⟨iv, rfl, fun _ _ _ _ => rfl, fun y' x' a b => by omega, fun _ _ => rfl⟩
    · rw [if_neg (nI_ge (by omega) (by omega))]
      obtain ⟨iv1, j1, j2, j3, j4⟩ := draw28 (i := i) (w := w) (h := h) (s := s) (t := t) (y := y) hA (by omega) c (F_X3_drawn_b18 n) 1000 0 (by omega) (by omega) z iv ov hP hC hc
      have P' : PAT A iv1 rv i w h s := hP.to (fun _ _ q => q) rfl rfl (fun j => j2 _ _ _ (by omega)) (fun j => j2 _ _ _ (by omega))
      have C' : CEL A iv1 rv 9 10 t (rcM w s) (rrM h s) := hC.to (fun _ _ q => q) rfl (j2 _ _ _ (by omega)) (j2 _ _ _ (by omega))
      have c' : ∀ a b, pcN (cF iv1 i w) w h s a b = c a b := by
        intro a b
        rw [← hc a b]
        unfold cF
        rw [show iv1 7 i = iv 7 i from funext fun j => j2 _ _ _ (by omega)]
      obtain ⟨iv', i1, i2, i3, i4⟩ := ih (y + 1) (by omega) (by omega) z iv1 ov P' C' c'
      refine ⟨iv', j1.trans i1, fun T a b hT => (i2 T a b hT).trans (j2 T a b hT), fun y' x' a b d => ?_, fun j hj => (i4 j ?_).trans (j4 j (by omega))⟩
      · by_cases g : y' = y
        · subst g
          rw [i4 _ (by rw [Nat.succ_mul]; omega)]
          exact j3 x' (by omega) d
        · exact i3 y' x' (by omega) b d
      · rw [Nat.succ_mul]
        omega
theorem k_roller {i w hh s rd : Nat} {iv : IVt} {ov : Nat → Int64} {z : Nat} (hO : OKA A rv z) (h : INV A iv rv np nr nl) (hi : i < np) (hP : PAT A iv rv i w hh s) (hd1 : 1 ≤ rd) (hd2 : rd ≤ 60) (hmod : rd % rrM hh s = 0) (hn : nr < 8) : ∃ A' iv' rv', F_X7_roller (A.1 0 0) (nI i) (nI rd) (z, hv A iv rv ov) = rtv (nI nr) (z + 1 + 1 + 1, hv A' iv' rv' ov) ∧ OKA A' rv' (z + 1 + 1 + 1) ∧ INV A' iv' rv' np (nr + 1) nl ∧ FRK A iv rv A' iv' rv' ∧ FRW iv iv' ∧ iv' 9 nr 1 = nI (rrM hh s) ∧ iv' 0 0 7 = iv 0 0 7 ∧ ∀ i, A'.2.2 19 i = A.2.2 19 i := by
  have hA := h.1
  obtain ⟨⟨t0, t1, t2, t3, t4⟩, ⟨w0, w1, w2, w3⟩, w4, w5, w6, w7, d1, d2, d3⟩ := id h.2.1
  obtain ⟨n1, n3, n4, n6, n7, n9⟩ := id h.2.2.1
  obtain ⟨a1, a2, a3, a4, a5, a6, a7, a8, a9, a10⟩ := id hP
  have c1 := rcM_pos (w := w) (s := s) a2.2.2.2.2.2.2.2.2.1
  have c2 := rcM_le (w := w) (s := s) a7
  have r1 := rrM_pos (w := hh) (s := s) a2.2.2.2.2.2.2.2.2.2.2.1
  have r2 := rrM_le (w := hh) (s := s) a8
  obtain ⟨hd8, hd9, hd10⟩ := d2 nr (Nat.le_refl _)
  have hO1 := hO.al hd8
  have hd9' : (alA A 8 nr z).2.2 9 nr = false := (alA_ln (by omega)).trans hd9
  have hO2 := hO1.al hd9'
  have hd10' : (alA (alA A 8 nr z) 9 nr (z + 1)).2.2 10 nr = false := (alA_ln (by omega)).trans ((alA_ln (by omega)).trans hd10)
  have hO3 := hO2.al hd10'
  have a_ : ∀ T i, A.2.2 T i = true → (alA (alA (alA A 8 nr z) 9 nr (z + 1)) 10 nr (z + 1 + 1)).1 T i = A.1 T i := fun T i hl => (alA_n (fun w => by rw [w.1, w.2, hd10] at hl; cases hl)).trans ((alA_n (fun w => by rw [w.1, w.2, hd9] at hl; cases hl)).trans (alA_n (fun w => by rw [w.1, w.2, hd8] at hl; cases hl)))
  have a8' : (alA (alA (alA A 8 nr z) 9 nr (z + 1)) 10 nr (z + 1 + 1)).1 8 nr = (alA A 8 nr z).1 8 nr := (alA_n (by omega)).trans (alA_n (by omega))
  have a9' : (alA (alA (alA A 8 nr z) 9 nr (z + 1)) 10 nr (z + 1 + 1)).1 9 nr = (alA (alA A 8 nr z) 9 nr (z + 1)).1 9 nr := alA_n (by omega)
  have b_ : ∀ T i, T ≠ 8 → (alA A 8 nr z).1 T i = A.1 T i := fun T i x => alA_n (by omega)
  have b2_ : ∀ T i, T ≠ 8 → T ≠ 9 → (alA (alA A 8 nr z) 9 nr (z + 1)).1 T i = A.1 T i := fun T i x y => (alA_n (by omega)).trans (alA_n (by omega))
  have l10 : (alA (alA (alA A 8 nr z) 9 nr (z + 1)) 10 nr (z + 1 + 1)).2.2 10 nr = true := alA_l
  have l9 : (alA (alA (alA A 8 nr z) 9 nr (z + 1)) 10 nr (z + 1 + 1)).2.2 9 nr = true := alA_lt alA_l
  have l8 : (alA (alA (alA A 8 nr z) 9 nr (z + 1)) 10 nr (z + 1 + 1)).2.2 8 nr = true := alA_lt (alA_lt alA_l)
  have lm : ∀ T i, A.2.2 T i = true → (alA (alA (alA A 8 nr z) 9 nr (z + 1)) 10 nr (z + 1 + 1)).2.2 T i = true := fun T i hl => alA_lt (alA_lt (alA_lt hl))
  have lm1 : ∀ T i, A.2.2 T i = true → (alA A 8 nr z).2.2 T i = true := fun T i hl => alA_lt hl
  have lm2 : ∀ T i, A.2.2 T i = true → (alA (alA A 8 nr z) 9 nr (z + 1)).2.2 T i = true := fun T i hl => alA_lt (alA_lt hl)
  have ln : ∀ T i, (T ≠ 8 ∧ T ≠ 9 ∧ T ≠ 10) ∨ i ≠ nr → (alA (alA (alA A 8 nr z) 9 nr (z + 1)) 10 nr (z + 1 + 1)).2.2 T i = A.2.2 T i := fun T i hT => (alA_ln (by omega)).trans ((alA_ln (by omega)).trans (alA_ln (by omega)))
  have hnew1 : ∀ {α : Type} (K : Nat → hpT → Rs α), newO (z, hv A iv rv ov) 4 [.int 0, .null] K = K ((alA A 8 nr z).1 8 nr) (z + 1, hv (alA A 8 nr z) (z3 iv 8 nr 0) (z3 rv 8 nr none) ov) := fun K => (newO_hv hO hd8 (by rfl) (by decide) (by rfl)).1
  have hnew2 : ∀ {α : Type} (K : Nat → hpT → Rs α), newO (z + 1, hv (alA A 8 nr z) (z3 iv 8 nr 0) (z3 rv 8 nr none) ov) 0 [.int 0, .int 0, .null] K = K ((alA (alA A 8 nr z) 9 nr (z + 1)).1 9 nr) (z + 1 + 1, hv (alA (alA A 8 nr z) 9 nr (z + 1)) (z3 (z3 iv 8 nr 0) 9 nr 0) (z3 (z3 rv 8 nr none) 9 nr none) ov) := fun K => (newO_hv hO1 hd9' (by rfl) (by decide) (by rfl)).1
  have hnew3 : ∀ {α : Type} (K : Nat → hpT → Rs α), newI (z + 1 + 1, hv (alA (alA A 8 nr z) 9 nr (z + 1)) (z3 (z3 iv 8 nr 0) 9 nr 0) (z3 (z3 rv 8 nr none) 9 nr none) ov) 100 K = K ((alA (alA (alA A 8 nr z) 9 nr (z + 1)) 10 nr (z + 1 + 1)).1 10 nr) (z + 1 + 1 + 1, hv (alA (alA (alA A 8 nr z) 9 nr (z + 1)) 10 nr (z + 1 + 1)) (z3 (z3 (z3 iv 8 nr 0) 9 nr 0) 10 nr 0) (z3 (z3 (z3 rv 8 nr none) 9 nr none) 10 nr none) ov) := fun K => (newI_hv hO2 hd10' (by rfl) (by rfl)).1
  have hI1 := hO1.1
  have hI2 := hO2.1
  have g1 : isO (z + 1, hv (alA A 8 nr z) (z3 iv 8 nr 0) (z3 rv 8 nr none) ov) (A.1 5 i) 3 = (fun (K : Rs Int32) => K) := by
    funext K
    rw [← b_ 5 i (by decide), isO_hv hI1 (lm1 _ _ a1) (by rfl) (by decide)]
  have g2 : ∀ {α : Type} (K : Int32 → Rs α), gfI (z + 1 + 1, hv (alA (alA A 8 nr z) 9 nr (z + 1)) (z3 (z3 iv 8 nr 0) 9 nr 0) (z3 (z3 rv 8 nr none) 9 nr none) ov) (A.1 5 i) 3 2 K = K (nI (rcM w s)) := by
    intro α K
    rw [← b2_ 5 i (by decide) (by decide), gfI_hv hI2 (lm2 _ _ a1) (by rfl) (by decide) (by rfl), z3_n (by omega), z3_n (by omega), a5]
  have g3 : ∀ {α : Type} (K : Int32 → Rs α), gfI (z + 1 + 1, hv (alA (alA A 8 nr z) 9 nr (z + 1)) (z3 (z3 iv 8 nr 0) 9 nr 0) (z3 (z3 rv 8 nr none) 9 nr none) ov) (A.1 5 i) 3 3 K = K (nI (rrM hh s)) := by
    intro α K
    rw [← b2_ 5 i (by decide) (by decide), gfI_hv hI2 (lm2 _ _ a1) (by rfl) (by decide) (by rfl), z3_n (by omega), z3_n (by omega), a6]
  rw [← a8'] at hnew1
  rw [← a9'] at hnew2
  generalize alA (alA (alA A 8 nr z) 9 nr (z + 1)) 10 nr (z + 1 + 1) = A3 at hO3 a_ a8' a9' l10 l9 l8 lm ln hnew1 hnew2 hnew3
  have hI3 := hO3.1
  have hO4 : OKA A3 (u3 (u3 (u3 (z3 (z3 (z3 rv 8 nr none) 9 nr none) 10 nr none) 9 nr 2 (some (10, nr))) 8 nr 1 (some (9, nr))) 2 0 nr (some (8, nr))) (z + 1 + 1 + 1) := ((hO3.ref l10).ref l9).ref l8
  have P0 : PAT A3 (u3 (u3 (z3 (z3 (z3 iv 8 nr 0) 9 nr 0) 10 nr 0) 9 nr 0 (nI (rcM w s))) 9 nr 1 (nI (rrM hh s))) (u3 (z3 (z3 (z3 rv 8 nr none) 9 nr none) 10 nr none) 9 nr 2 (some (10, nr))) i w hh s := hP.to lm (by simp [u3, z3]) (by simp [u3, z3]) (fun j => by simp [u3, z3]) (fun j => by simp [u3, z3])
  have C0 : CEL A3 (u3 (u3 (z3 (z3 (z3 iv 8 nr 0) 9 nr 0) 10 nr 0) 9 nr 0 (nI (rcM w s))) 9 nr 1 (nI (rrM hh s))) (u3 (z3 (z3 (z3 rv 8 nr none) 9 nr none) 10 nr none) 9 nr 2 (some (10, nr))) 9 10 nr (rcM w s) (rrM hh s) := ⟨l9, l10, by rfl, by rfl, by rfl, by simp [u3], by simp [u3], by simp [u3], c1, c2, r1, r2⟩
  have q0 : ∀ a b, pcN (cF (u3 (u3 (z3 (z3 (z3 iv 8 nr 0) 9 nr 0) 10 nr 0) 9 nr 0 (nI (rcM w s))) 9 nr 1 (nI (rrM hh s))) i w) w hh s a b = pcN (cF iv i w) w hh s a b := by
    intro a b
    have e : cF (u3 (u3 (z3 (z3 (z3 iv 8 nr 0) 9 nr 0) 10 nr 0) 9 nr 0 (nI (rcM w s))) 9 nr 1 (nI (rrM hh s))) i w = cF iv i w := by
      funext x y
      simp [cF, u3, z3]
    rw [e]
  obtain ⟨ivd, y1, y2, -, -⟩ := draw18 (rv := u3 (z3 (z3 (z3 rv 8 nr none) 9 nr none) 10 nr none) 9 nr 2 (some (10, nr))) (t := nr) hI3 (fun a b => pcN (cF iv i w) w hh s a b) 1000 0 (by omega) (by omega) (z + 1 + 1 + 1) _ ov P0 C0 q0
  have ivd1 : ∀ T a b, T ≠ 8 → T ≠ 9 → T ≠ 10 → ivd T a b = iv T a b := by
    intro T a b x1 x2 x3
    rw [y2 T a b (by omega)]
    simp [u3, z3, x1, x2, x3]
  have ivd2 : ∀ T a b, a ≠ nr → ivd T a b = iv T a b := by
    intro T a b x1
    rw [y2 T a b (by omega)]
    simp [u3, z3, x1]
  have ivd9 : ivd 9 nr 0 = nI (rcM w s) ∧ ivd 9 nr 1 = nI (rrM hh s) := by
    rw [y2 _ _ _ (by omega), y2 _ _ _ (by omega)]
    simp [u3, z3]
  refine ⟨A3, u3 (u3 ivd 8 nr 0 (nI rd)) 0 0 3 (nI (nr + 1)), u3 (u3 (u3 (z3 (z3 (z3 rv 8 nr none) 9 nr none) 10 nr none) 9 nr 2 (some (10, nr))) 8 nr 1 (some (9, nr))) 2 0 nr (some (8, nr)), ?_, hO4, ?_⟩
  · unfold F_X7_roller
    rw [isO_hv hA t0 (by rfl) (by decide), patAt_in h hi, bnd_v, req_in (show inR (nI rd) 1 60 from rg_to (a := 1) (b := 60) hd1 hd2 (by decide)), bnd_v, gfI_hv hA a1 (by rfl) (by decide) (by rfl), a6, wrap_spec (by omega) (by omega), bnd_v, wm_nI (by omega), hmod, if_pos (by rfl), gfI_hv hA t0 (by rfl) (by decide) (by rfl), n4, if_neg (nI_pos (by omega)), gfR_hv hA t0 (by rfl) (by decide) (by rfl), w1, rfv_s, nn_s, alen_R (k := 1) hA t2 (by rfl) (by decide), show kn 2 = 8 from rfl, if_pos (nI_lt hn (by decide)), gfR_hv hA t0 (by rfl) (by decide) (by rfl), w1, rfv_s, hnew1, g1]
    unfold F_X3_drawn
    rw [hnew2, g2, g3]
    unfold F_X0_init
    rw [hnew3, pfR_hv hI3 l9 (by rfl) (by decide) (by rfl), pf_hv hI3 l9 (by rfl) (by decide) (by rfl), pf_hv hI3 l9 (by rfl) (by decide) (by rfl), bnd_v, ← a_ _ _ a1]
    show bnd (F_X3_drawn_b18 1000 (A3.1 5 i) (A3.1 9 nr) (nI 0) _) _ = _
    rw [y1, bnd_v]
    unfold F_X4_init
    rw [pf_hv hI3 l8 (by rfl) (by decide) (by rfl), pfR_hv hI3 l8 (by rfl) (by decide) (by rfl), bnd_v, nn_s, ← a_ _ _ t2, astR_hv (q := 1) hI3 (lm _ _ t2) (by rfl) (show nr < 8 from hn) l8 (by rfl) (by decide), ← a_ _ _ t0, pf_hv hI3 (lm _ _ t0) (by rfl) (by decide) (by rfl), nI_1]
  · have e : ∀ T a b, T ≠ 0 ∧ T ≠ 8 ∧ T ≠ 9 ∧ T ≠ 10 → (u3 (u3 ivd 8 nr 0 (nI rd)) 0 0 3 (nI (nr + 1))) T a b = iv T a b := by
      rintro T a b ⟨y1, y2, y3, y4⟩
      rw [u3_T y1, u3_T y2, ivd1 _ _ _ y2 y3 y4]
    have e0 : ∀ j, j ≠ 3 → (u3 (u3 ivd 8 nr 0 (nI rd)) 0 0 3 (nI (nr + 1))) 0 0 j = iv 0 0 j := by
      intro j hj
      rw [u3_n (by omega), u3_T (by decide), ivd1 _ _ _ (by decide) (by decide) (by decide)]
    have e03 : (u3 (u3 ivd 8 nr 0 (nI rd)) 0 0 3 (nI (nr + 1))) 0 0 3 = nI (nr + 1) := u3_s
    have e8 : ∀ a b, a ≠ nr → (u3 (u3 ivd 8 nr 0 (nI rd)) 0 0 3 (nI (nr + 1))) 8 a b = iv 8 a b ∧ (u3 (u3 ivd 8 nr 0 (nI rd)) 0 0 3 (nI (nr + 1))) 9 a b = iv 9 a b := by
      intro a b ha
      simp [u3, ha, ivd2]
    have e8n : (u3 (u3 ivd 8 nr 0 (nI rd)) 0 0 3 (nI (nr + 1))) 8 nr 0 = nI rd ∧ (u3 (u3 ivd 8 nr 0 (nI rd)) 0 0 3 (nI (nr + 1))) 9 nr 0 = nI (rcM w s) ∧ (u3 (u3 ivd 8 nr 0 (nI rd)) 0 0 3 (nI (nr + 1))) 9 nr 1 = nI (rrM hh s) := by
      simp [u3, ivd9]
    have er : ∀ T i j, T ≠ 2 → T ≠ 8 → T ≠ 9 → T ≠ 10 → (u3 (u3 (u3 (z3 (z3 (z3 rv 8 nr none) 9 nr none) 10 nr none) 9 nr 2 (some (10, nr))) 8 nr 1 (some (9, nr))) 2 0 nr (some (8, nr))) T i j = rv T i j := by
      intro T i j y1 y2 y3 y4
      simp [u3, z3, y1, y2, y3, y4]
    have er8 : ∀ i j, i ≠ nr → (u3 (u3 (u3 (z3 (z3 (z3 rv 8 nr none) 9 nr none) 10 nr none) 9 nr 2 (some (10, nr))) 8 nr 1 (some (9, nr))) 2 0 nr (some (8, nr))) 8 i j = rv 8 i j ∧ (u3 (u3 (u3 (z3 (z3 (z3 rv 8 nr none) 9 nr none) 10 nr none) 9 nr 2 (some (10, nr))) 8 nr 1 (some (9, nr))) 2 0 nr (some (8, nr))) 9 i j = rv 9 i j := by
      intro i j hi
      simp [u3, z3, hi]
    have er8n : (u3 (u3 (u3 (z3 (z3 (z3 rv 8 nr none) 9 nr none) 10 nr none) 9 nr 2 (some (10, nr))) 8 nr 1 (some (9, nr))) 2 0 nr (some (8, nr))) 8 nr 1 = some (9, nr) ∧ (u3 (u3 (u3 (z3 (z3 (z3 rv 8 nr none) 9 nr none) 10 nr none) 9 nr 2 (some (10, nr))) 8 nr 1 (some (9, nr))) 2 0 nr (some (8, nr))) 9 nr 2 = some (10, nr) := by simp [u3, z3]
    have er2 : ∀ j, j ≠ nr → (u3 (u3 (u3 (z3 (z3 (z3 rv 8 nr none) 9 nr none) 10 nr none) 9 nr 2 (some (10, nr))) 8 nr 1 (some (9, nr))) 2 0 nr (some (8, nr))) 2 0 j = rv 2 0 j := by
      intro j hj
      simp [u3, z3, hj]
    have er2n : (u3 (u3 (u3 (z3 (z3 (z3 rv 8 nr none) 9 nr none) 10 nr none) 9 nr 2 (some (10, nr))) 8 nr 1 (some (9, nr))) 2 0 nr (some (8, nr))) 2 0 nr = some (8, nr) := by simp [u3, z3]
    clear y1 y2 P0 C0 q0
    generalize (u3 (u3 ivd 8 nr 0 (nI rd)) 0 0 3 (nI (nr + 1))) = iv2 at e e0 e03 e8 e8n ⊢
    generalize (u3 (u3 (u3 (z3 (z3 (z3 rv 8 nr none) 9 nr none) 10 nr none) 9 nr 2 (some (10, nr))) 8 nr 1 (some (9, nr))) 2 0 nr (some (8, nr))) = rv2 at hO4 er er8 er8n er2 er2n ⊢
    obtain ⟨f1, f2, f3, f4, f5, f6, f7⟩ := h
    refine ⟨⟨hI3, ⟨⟨lm _ _ t0, lm _ _ t1, lm _ _ t2, lm _ _ t3, lm _ _ t4⟩, ⟨(er _ _ _ (by decide) (by decide) (by decide) (by decide)).trans w0, (er _ _ _ (by decide) (by decide) (by decide) (by decide)).trans w1, (er _ _ _ (by decide) (by decide) (by decide) (by decide)).trans w2, (er _ _ _ (by decide) (by decide) (by decide) (by decide)).trans w3⟩, fun i hi => (er _ _ _ (by decide) (by decide) (by decide) (by decide)).trans (w4 i hi), fun i hi => ?_, fun i hi => (er _ _ _ (by decide) (by decide) (by decide) (by decide)).trans (w6 i hi), fun i hi => (er _ _ _ (by decide) (by decide) (by decide) (by decide)).trans (w7 i hi), fun i hi => ?_, fun i hi => ?_, fun i hi => (ln _ _ (by omega)).trans (d3 i hi)⟩, ⟨(e0 1 (by decide)).trans n1, n3, e03, hn, (e0 5 (by decide)).trans n7, n9⟩, fun i hi => (f4 i hi).to lm (er _ _ _ (by decide) (by decide) (by decide) (by decide)) (er _ _ _ (by decide) (by decide) (by decide) (by decide)) (fun _ => e _ _ _ (by decide)) (fun _ => e _ _ _ (by decide)) ((f4 i hi).col (fun _ => e _ _ _ (by decide))), fun i2 hi2 => ?_, fun i hi => (f6 i hi).to (Nat.le_succ _) lm (er _ _ _ (by decide) (by decide) (by decide) (by decide)) (fun _ => e _ _ _ (by decide)), fun r' hr' => (f7 r' hr').to (Nat.le_refl _) lm (fun w hw q => ⟨(ln _ _ (by omega)).trans q.1, (ln _ _ (by omega)).trans q.2⟩) (fun _ => er _ _ _ (by decide) (by decide) (by decide) (by decide)) (er _ _ _ (by decide) (by decide) (by decide) (by decide)) (fun _ _ => er _ _ _ (by decide) (by decide) (by decide) (by decide)) (fun _ _ => er _ _ _ (by decide) (by decide) (by decide) (by decide)) (fun _ _ => er _ _ _ (by decide) (by decide) (by decide) (by decide)) (fun _ => e _ _ _ (by decide)) (fun _ => e _ _ _ (by decide)) (fun _ => e _ _ _ (by decide)) (fun _ _ _ => e _ _ _ (by decide)) (fun _ _ _ => e _ _ _ (by decide)) (fun _ _ => e _ _ _ (by decide)) (fun l k _ hk => ⟨k, Nat.le_refl _, (e _ _ _ (by decide)).trans hk⟩) (fun l q hl hq => ?_)⟩, ⟨fun T i hl => ⟨lm T i hl, a_ T i hl⟩, fun T i j hT hl => ?_, fun T i j hT hl => er _ _ _ (by omega) (by omega) (by omega) (by omega)⟩, ⟨fun i => e _ _ _ (by decide), fun i => e _ _ _ (by decide)⟩, e8n.2.2, e0 7 (by decide), fun i => ln _ _ (Or.inl (by decide))⟩
    · by_cases hin : i = nr
      · subst hin
        rw [er2n, if_pos (by omega)]
      · rw [er2 i hin, w5 i hi]
        by_cases hi2 : i < nr
        · rw [if_pos hi2, if_pos (by omega)]
        · rw [if_neg hi2, if_neg (by omega)]
    · obtain ⟨y1, y2, y3⟩ := d1 i hi
      exact ⟨(ln _ _ (by omega)).trans y1, (ln _ _ (by omega)).trans y2, (ln _ _ (by omega)).trans y3⟩
    · obtain ⟨y1, y2, y3⟩ := d2 i (by omega)
      exact ⟨(ln _ _ (by omega)).trans y1, (ln _ _ (by omega)).trans y2, (ln _ _ (by omega)).trans y3⟩
    · by_cases hin : i2 = nr
      · subst hin
        exact ⟨rcM w s, rrM hh s, rd, hn, l8, er8n.1, ⟨l9, l10, by rfl, by rfl, by rfl, er8n.2, e8n.2.1, e8n.2.2, c1, c2, r1, r2⟩, e8n.1, hd1, hd2⟩
      · exact (f5 i2 (by omega)).to lm (er8 _ _ hin).1 (er8 _ _ hin).2 (e8 _ _ hin).1 (e8 _ _ hin).2 (e8 _ _ hin).2
    · obtain ⟨lq, lk, lL, p1, p2, p3, p4, -⟩ := f6 l hl
      rw [p4] at hq
      cases hq
      exact (e8 _ _ (by omega)).2
    · rcases hT with rfl | rfl | rfl | rfl | rfl
      · exact e _ _ _ (by decide)
      · exact e _ _ _ (by decide)
      · exact (e8 _ _ (fun w => by rw [w, hd9] at hl; cases hl)).2
      · exact e _ _ _ (by decide)
      · exact e _ _ _ (by decide)
theorem k_roller_x {iv : IVt} {ov : Nat → Int64} {z : Nat} {v b : Int32} (h : INV A iv rv np nr nl) (hx : ¬ ∃ j, j < np ∧ v = nI j) : F_X7_roller (A.1 0 0) v b (z, hv A iv rv ov) = tht IX (z, hv A iv rv ov) := by
  have hA := h.1
  obtain ⟨⟨t0, -⟩, -⟩ := id h.2.1
  unfold F_X7_roller
  rw [isO_hv hA t0 (by rfl) (by decide), patAt_out h hx, bnd_t]
theorem k_roller_w {iv : IVt} {ov : Nat → Int64} {z i : Nat} {b : Int32} (h : INV A iv rv np nr nl) (hi : i < np) (hb : ¬ inR b 1 60) : F_X7_roller (A.1 0 0) (nI i) b (z, hv A iv rv ov) = tht IA (z, hv A iv rv ov) := by
  have hA := h.1
  obtain ⟨⟨t0, -⟩, -⟩ := id h.2.1
  unfold F_X7_roller
  rw [isO_hv hA t0 (by rfl) (by decide), patAt_in h hi, bnd_v, req_out hb, bnd_t]
end RO
