/-! roller -/
section RO
variable {A : Adr} {rv : RVt} {np nr nl : Nat}
theorem draw28 {i w h s t y : Nat} (hA : IN A) (hy : y < rrM h s) (c : Nat → Nat → Int32) (K : Nat → Nat → Int32 → hpT → Rs Nat) : ∀ n x, x ≤ rcM w s → rcM w s < x + n → ∀ (z : Nat) (iv : IVt) (ov : Nat → Int64), PAT A iv rv i w h s → CEL A iv rv 9 10 t (rcM w s) (rrM h s) → (∀ a b, pcN (cF iv i w) w h s a b = c a b) →
    ∃ iv', F_X3_drawn_b28 K n (A.1 5 i) (A.1 9 t) (nI y) (nI x) (z, hv A iv rv ov) = K (A.1 5 i) (A.1 9 t) (nI (y + 1)) (z, hv A iv' rv ov) ∧ (∀ T a b, ¬ (T = 10 ∧ a = t) → iv' T a b = iv T a b) ∧ (∀ x', x ≤ x' → x' < rcM w s → iv' 10 t (y * rcM w s + x') = c x' y) ∧ ∀ j, j < y * rcM w s + x → iv' 10 t j = iv 10 t j := by
  intro n
  induction n with
  | zero => intro x h1 h2; omega
  | succ n ih =>
    intro x hx hn z iv ov hP hC hc
    obtain ⟨h1, h2, h3, h4, h5, h6, h7, h8, h9, h10⟩ := id hP
    obtain ⟨e1, e2, e3, e4, e5, e6, e7, e8, e9, e10, e11, e12⟩ := id hC
    unfold F_X3_drawn_b28
    rw [gfI_hv hA h1 (by rfl) (by decide) (by rfl), h5]
    by_cases q : rcM w s ≤ x
    · rw [if_pos (nI_le q (by omega)), nI_1]
      exact ⟨iv, rfl, fun _ _ _ _ => rfl, fun x' a b => by omega, fun _ _ => rfl⟩
    · have hput := put_spec (z := z) (ov := ov) (x := nI x) (y := nI y) (v := pcN (cF iv i w) w h s (x % rcM w s) (y % rrM h s)) hA hC
      rw [wm_small (show x < rcM w s by omega) (by omega), wm_small hy (by omega)] at hput
      rw [if_neg (nI_ge (by omega) (by omega)), isO_hv hA h1 (by rfl) (by decide), pcn_spec hA hP (by omega) (by omega), bnd_v, isO_hv hA e1 (by rfl) (by decide), hput, bnd_v, nI_1]
      rw [Nat.mod_eq_of_lt (show x < rcM w s by omega), Nat.mod_eq_of_lt hy, hc x y]
      have P' : PAT A (u3 iv 10 t (y * rcM w s + x) (c x y)) rv i w h s := hP.to (fun _ _ q => q) rfl rfl (fun j => u3_T (by decide)) (fun j => u3_T (by decide))
      have C' : CEL A (u3 iv 10 t (y * rcM w s + x) (c x y)) rv 9 10 t (rcM w s) (rrM h s) := hC.to (fun _ _ q => q) rfl (u3_T (by decide)) (u3_T (by decide))
      have c' : ∀ a b, pcN (cF (u3 iv 10 t (y * rcM w s + x) (c x y)) i w) w h s a b = c a b := by
        intro a b
        rw [← hc a b]
        unfold cF
        rw [u3_tag (by decide)]
      obtain ⟨iv', i1, i2, i3, i4⟩ := ih (x + 1) (by omega) (by omega) z _ ov P' C' c'
      refine ⟨iv', i1, fun T a b hT => (i2 T a b hT).trans (u3_n (fun q => hT ⟨q.1, q.2.1⟩)), fun x' a b => ?_, fun j hj => (i4 j (by omega)).trans (u3_n (by omega))⟩
      by_cases g : x' = x
      · subst g
        rw [i4 _ (by omega), u3_s]
      · exact i3 x' (by omega) b
theorem draw18 {i w h s t : Nat} (hA : IN A) (c : Nat → Nat → Int32) : ∀ n y, y ≤ rrM h s → rrM h s < y + n → ∀ (z : Nat) (iv : IVt) (ov : Nat → Int64), PAT A iv rv i w h s → CEL A iv rv 9 10 t (rcM w s) (rrM h s) → (∀ a b, pcN (cF iv i w) w h s a b = c a b) →
    ∃ iv', F_X3_drawn_b18 n (A.1 5 i) (A.1 9 t) (nI y) (z, hv A iv rv ov) = rtv (A.1 9 t) (z, hv A iv' rv ov) ∧ (∀ T a b, ¬ (T = 10 ∧ a = t) → iv' T a b = iv T a b) ∧ (∀ y' x', y ≤ y' → y' < rrM h s → x' < rcM w s → iv' 10 t (y' * rcM w s + x') = c x' y') ∧ ∀ j, j < y * rcM w s → iv' 10 t j = iv 10 t j := by
  intro n
  induction n with
  | zero => intro y h1 h2; omega
  | succ n ih =>
    intro y hy hn z iv ov hP hC hc
    obtain ⟨h1, h2, h3, h4, h5, h6, h7, h8, h9, h10⟩ := id hP
    obtain ⟨e1, e2, e3, e4, e5, e6, e7, e8, e9, e10, e11, e12⟩ := id hC
    unfold F_X3_drawn_b18
    rw [gfI_hv hA h1 (by rfl) (by decide) (by rfl), h6]
    by_cases q : rrM h s ≤ y
    · rw [if_pos (nI_le q (by omega))]
      exact ⟨iv, rfl, fun _ _ _ _ => rfl, fun y' x' a b => by omega, fun _ _ => rfl⟩
    · rw [if_neg (nI_ge (by omega) (by omega))]
      obtain ⟨iv1, j1, j2, j3, j4⟩ := draw28 (i := i) (w := w) (h := h) (s := s) (t := t) (y := y) hA (by omega) c (F_X3_drawn_b18 n) 1000 0 (by omega) (by omega) z iv ov hP hC hc
      have P' : PAT A iv1 rv i w h s := hP.to (fun _ _ q => q) rfl rfl (fun j => j2 _ _ _ (by omega)) (fun j => j2 _ _ _ (by omega))
      have C' : CEL A iv1 rv 9 10 t (rcM w s) (rrM h s) := hC.to (fun _ _ q => q) rfl (j2 _ _ _ (by omega)) (j2 _ _ _ (by omega))
      have c' : ∀ a b, pcN (cF iv1 i w) w h s a b = c a b := by
        intro a b
        rw [← hc a b]
        unfold cF
        rw [show iv1 7 i = iv 7 i from funext fun j => j2 _ _ _ (by omega)]
      obtain ⟨iv', i1, i2, i3, i4⟩ := ih (y + 1) (by omega) (by omega) z iv1 ov P' C' c'
      refine ⟨iv', j1.trans i1, fun T a b hT => (i2 T a b hT).trans (j2 T a b hT), fun y' x' a b d => ?_, fun j hj => (i4 j ?_).trans (j4 j (by omega))⟩
      · by_cases g : y' = y
        · subst g
          rw [i4 _ (by rw [Nat.succ_mul]; omega)]
          exact j3 x' (by omega) d
        · exact i3 y' x' (by omega) b d
      · rw [Nat.succ_mul]
        omega
theorem eng100 {i w h s t : Nat} (hM : MD A rv) (ht : t < 8) (c : Nat → Nat → Int32) : ∀ n k, k ≤ 100 → 100 < k + n → ∀ (iv : IVt), MPA iv i w h s → (∀ a b, pcN (mF iv i) w h s a b = c a b) →
    ∃ iv', (∀ z ov, F_X8_roller_b100 n (A.1 20 0) (nI i) (nI t) (nI k) (z, hv A iv rv ov) = rtv (nI t) (z, hv A iv' rv ov)) ∧ (∀ T a b, T ≠ 27 → iv' T a b = iv T a b) ∧ (∀ j, k ≤ j → j < 100 → iv' 27 0 (100 * t + j) = c (j % 10 % rcM w s) (j / 10 % rrM h s)) ∧ ∀ j, j < 100 * t + k ∨ 100 * t + 100 ≤ j → iv' 27 0 j = iv 27 0 j := by
  intro n
  induction n with
  | zero => intro k h1 h2; omega
  | succ n ih =>
    intro k hk hn iv hP hc
    unfold F_X8_roller_b100
    by_cases q : 100 ≤ k
    · refine ⟨iv, fun z ov => ?_, fun _ _ _ _ => rfl, fun j a b => by omega, fun _ _ => rfl⟩
      rw [if_pos (show (100 : Int32) ≤ nI k from nI_le (a := 100) q (by omega))]
    · have P' : MPA (u3 iv 27 0 (100 * t + k) (c (k % 10 % rcM w s) (k / 10 % rrM h s))) i w h s := hP.to (u3_T (by decide)) (u3_T (by decide)) (u3_T (by decide))
      have c' : ∀ a b, pcN (mF (u3 iv 27 0 (100 * t + k) (c (k % 10 % rcM w s) (k / 10 % rrM h s))) i) w h s a b = c a b := by
        intro a b
        rw [← hc a b]
        unfold mF
        rw [u3_tag (by decide)]
      obtain ⟨iv', i1, i2, i3, i4⟩ := ih (k + 1) (by omega) (by omega) _ P' c'
      refine ⟨iv', fun z ov => ?_, fun T a b hT => (i2 T a b hT).trans (u3_T hT), fun j a b => ?_, fun j hj => (i4 j (by omega)).trans (u3_n (by omega))⟩
      · have ei : irm (nI k) 10 = nI (k % 10) := pk_rem (by omega) (by decide) (by decide)
        have ed : nI k / 10 = nI (k / 10) := pk_div (by omega) (by decide) (by decide)
        rw [if_neg (show ¬ (100 : Int32) ≤ nI k from nI_ge (b := 100) (by omega) (by omega)), mR9 hM, nz_p (by decide), nz_p (by decide), mO hM, ei, ed, mcn_spec hM hP (by omega) (by omega), bnd_v, nn_s, hc, show (100 : Int32) = nI 100 from rfl, pk_mul, nI_add, mS9 hM (by omega), nI_1]
        exact i1 z ov
      · by_cases g : j = k
        · subst g
          rw [i4 _ (by omega), u3_s]
        · exact i3 j (by omega) b
theorem sc5 {iv : IVt} {ov : Nat → Int64} {z : Nat} {v1 v2 : Int32} (h : INV A iv rv np nr nl) (hF : RFA A rv) (hz : ∀ a e, hv A iv rv ov a = some e → a < z) : OP A cs_L_roller (F_X7_roller (A.1 0 0) v1 v2 (z, hv A iv rv ov)) (F_X8_roller (A.1 20 0) v1 v2) := by
  have hM := h.1
  have hA := hM.1
  obtain ⟨⟨t0, t1, t2, t3, t4⟩, ⟨w0, w1, w2, w3⟩, w4, w5, w6, w7, d1, d2, d3, t18, o18⟩ := id h.2.1
  obtain ⟨n1, n2, n3, n4, n5, n6, n7, n8, n9, n10, n11⟩ := id h.2.2.1
  have mbad : ∀ (z1 : Nat) (k : Nat), k = 1 ∨ k = 2 ∨ k = 3 → F_X8_roller_b57 (A.1 20 0) v1 v2 (nI k) (A.1 20 0) (z1, hv A iv rv ov) = rtv 0 (z1, hv A (u3 iv 20 0 0 (nI k)) rv ov) := by
    intro z1 k hk
    unfold F_X8_roller_b57
    rw [mO hM, refused_spec hM (by omega), bnd_v]
    rcases hk with rfl | rfl | rfl <;> rfl
  by_cases hx : ∃ j, j < np ∧ v1 = nI j
  · have hx' := hx
    obtain ⟨i, hi, rfl⟩ := hx
    obtain ⟨w, hh, s, p1, p2, p3⟩ := h.2.2.2.1 i hi
    obtain ⟨a1, a2, a3, a4, a5, a6, a7, a8, a9, a10⟩ := id p1
    obtain ⟨b1, b2, b3, b4, b5, b6, b7, b8, b9, b10⟩ := id p2
    have c1 := rcM_pos (w := w) (s := s) b5
    have c2 := rcM_le (w := w) (s := s) b6
    have r1 := rrM_pos (w := hh) (s := s) b7
    have r2 := rrM_le (w := hh) (s := s) b8
    have cHead : ∀ K : Nat → hpT → Rs Int32, isO (z, hv A iv rv ov) (A.1 0 0) 7 (bnd (F_X7_patternAt (A.1 0 0) (nI i) (z, hv A iv rv ov)) K) = K (A.1 5 i) (z, hv A iv rv ov) := by
      intro K
      rw [isO_hv hA t0 (by rfl) (by decide), patAt_in h hi, bnd_v]
    by_cases hv2 : inR v2 1 60
    · have hv2' := hv2
      obtain ⟨rd, rfl, hd1, hd2⟩ := rg_of (a := 1) (b := 60) (by decide) (by decide) hv2
      have eirm : irm (nI rd) (nI (rrM hh s)) = nI (rd % rrM hh s) := pk_rem (by omega) (by omega) (by omega)
      have lmod : rd % rrM hh s < 10 := Nat.lt_of_lt_of_le (Nat.mod_lt _ r1) r2
      by_cases hmod : rd % rrM hh s = 0
      · by_cases hn : nr < 8
        · have hO := oka_of hA hF hz
          obtain ⟨hd8, hd9, hd10⟩ := d2 nr (Nat.le_refl _)
          have hO1 := hO.al hd8
          have hd9' : (alA A 8 nr z).2.2 9 nr = false := (alA_ln (by omega)).trans hd9
          have hO2 := hO1.al hd9'
          have hd10' : (alA (alA A 8 nr z) 9 nr (z + 1)).2.2 10 nr = false := (alA_ln (by omega)).trans ((alA_ln (by omega)).trans hd10)
          have hO3 := hO2.al hd10'
          have a_ : ∀ T i, T ≠ 8 → T ≠ 9 → T ≠ 10 → (alA (alA (alA A 8 nr z) 9 nr (z + 1)) 10 nr (z + 1 + 1)).1 T i = A.1 T i := fun T i x y q => (alA_n (by omega)).trans ((alA_n (by omega)).trans (alA_n (by omega)))
          have a8' : (alA (alA (alA A 8 nr z) 9 nr (z + 1)) 10 nr (z + 1 + 1)).1 8 nr = (alA A 8 nr z).1 8 nr := (alA_n (by omega)).trans (alA_n (by omega))
          have a9' : (alA (alA (alA A 8 nr z) 9 nr (z + 1)) 10 nr (z + 1 + 1)).1 9 nr = (alA (alA A 8 nr z) 9 nr (z + 1)).1 9 nr := alA_n (by omega)
          have b_ : ∀ T i, T ≠ 8 → (alA A 8 nr z).1 T i = A.1 T i := fun T i x => alA_n (by omega)
          have b2_ : ∀ T i, T ≠ 8 → T ≠ 9 → (alA (alA A 8 nr z) 9 nr (z + 1)).1 T i = A.1 T i := fun T i x y => (alA_n (by omega)).trans (alA_n (by omega))
          have l10 : (alA (alA (alA A 8 nr z) 9 nr (z + 1)) 10 nr (z + 1 + 1)).2.2 10 nr = true := alA_l
          have l9 : (alA (alA (alA A 8 nr z) 9 nr (z + 1)) 10 nr (z + 1 + 1)).2.2 9 nr = true := alA_lt alA_l
          have l8 : (alA (alA (alA A 8 nr z) 9 nr (z + 1)) 10 nr (z + 1 + 1)).2.2 8 nr = true := alA_lt (alA_lt alA_l)
          have lm : ∀ T i, A.2.2 T i = true → (alA (alA (alA A 8 nr z) 9 nr (z + 1)) 10 nr (z + 1 + 1)).2.2 T i = true := fun T i hl => alA_lt (alA_lt (alA_lt hl))
          have lm1 : ∀ T i, A.2.2 T i = true → (alA A 8 nr z).2.2 T i = true := fun T i hl => alA_lt hl
          have lm2 : ∀ T i, A.2.2 T i = true → (alA (alA A 8 nr z) 9 nr (z + 1)).2.2 T i = true := fun T i hl => alA_lt (alA_lt hl)
          have ln : ∀ T i, (T ≠ 8 ∧ T ≠ 9 ∧ T ≠ 10) ∨ i ≠ nr → (alA (alA (alA A 8 nr z) 9 nr (z + 1)) 10 nr (z + 1 + 1)).2.2 T i = A.2.2 T i := fun T i hT => (alA_ln (by omega)).trans ((alA_ln (by omega)).trans (alA_ln (by omega)))
          have hnew1 : ∀ {α : Type} (K : Nat → hpT → Rs α), newO (z, hv A iv rv ov) 4 [.int 0, .null] K = K ((alA A 8 nr z).1 8 nr) (z + 1, hv (alA A 8 nr z) (z3 iv 8 nr 0) (z3 rv 8 nr none) ov) := fun K => (newO_hv hO hd8 (by rfl) (by decide) (by rfl)).1
          have hnew2 : ∀ {α : Type} (K : Nat → hpT → Rs α), newO (z + 1, hv (alA A 8 nr z) (z3 iv 8 nr 0) (z3 rv 8 nr none) ov) 0 [.int 0, .int 0, .null] K = K ((alA (alA A 8 nr z) 9 nr (z + 1)).1 9 nr) (z + 1 + 1, hv (alA (alA A 8 nr z) 9 nr (z + 1)) (z3 (z3 iv 8 nr 0) 9 nr 0) (z3 (z3 rv 8 nr none) 9 nr none) ov) := fun K => (newO_hv hO1 hd9' (by rfl) (by decide) (by rfl)).1
          have hnew3 : ∀ {α : Type} (K : Nat → hpT → Rs α), newI (z + 1 + 1, hv (alA (alA A 8 nr z) 9 nr (z + 1)) (z3 (z3 iv 8 nr 0) 9 nr 0) (z3 (z3 rv 8 nr none) 9 nr none) ov) 100 K = K ((alA (alA (alA A 8 nr z) 9 nr (z + 1)) 10 nr (z + 1 + 1)).1 10 nr) (z + 1 + 1 + 1, hv (alA (alA (alA A 8 nr z) 9 nr (z + 1)) 10 nr (z + 1 + 1)) (z3 (z3 (z3 iv 8 nr 0) 9 nr 0) 10 nr 0) (z3 (z3 (z3 rv 8 nr none) 9 nr none) 10 nr none) ov) := fun K => (newI_hv hO2 hd10' (by rfl) (by rfl)).1
          have hI1 := hO1.1
          have hI2 := hO2.1
          have g1 : isO (z + 1, hv (alA A 8 nr z) (z3 iv 8 nr 0) (z3 rv 8 nr none) ov) (A.1 5 i) 3 = (fun (K : Rs Int32) => K) := by
            funext K
            rw [← b_ 5 i (by decide), isO_hv hI1 (lm1 _ _ a1) (by rfl) (by decide)]
          have g2 : ∀ {α : Type} (K : Int32 → Rs α), gfI (z + 1 + 1, hv (alA (alA A 8 nr z) 9 nr (z + 1)) (z3 (z3 iv 8 nr 0) 9 nr 0) (z3 (z3 rv 8 nr none) 9 nr none) ov) (A.1 5 i) 3 2 K = K (nI (rcM w s)) := by
            intro α K
            rw [← b2_ 5 i (by decide) (by decide), gfI_hv hI2 (lm2 _ _ a1) (by rfl) (by decide) (by rfl), z3_n (by omega), z3_n (by omega), a5]
          have g3 : ∀ {α : Type} (K : Int32 → Rs α), gfI (z + 1 + 1, hv (alA (alA A 8 nr z) 9 nr (z + 1)) (z3 (z3 iv 8 nr 0) 9 nr 0) (z3 (z3 rv 8 nr none) 9 nr none) ov) (A.1 5 i) 3 3 K = K (nI (rrM hh s)) := by
            intro α K
            rw [← b2_ 5 i (by decide) (by decide), gfI_hv hI2 (lm2 _ _ a1) (by rfl) (by decide) (by rfl), z3_n (by omega), z3_n (by omega), a6]
          rw [← a8'] at hnew1
          rw [← a9'] at hnew2
          generalize alA (alA (alA A 8 nr z) 9 nr (z + 1)) 10 nr (z + 1 + 1) = A3 at hO3 a_ a8' a9' l10 l9 l8 lm ln hnew1 hnew2 hnew3
          have hI3 := hO3.1
          have f1 : RFA A3 (z3 (z3 (z3 rv 8 nr none) 9 nr none) 10 nr none) := hO3.2.2
          have f2 : RFA A3 (u3 (z3 (z3 (z3 rv 8 nr none) 9 nr none) 10 nr none) 9 nr 2 (some (10, nr))) := f1.ref l10
          have hF3 : RFA A3 (u3 (u3 (u3 (z3 (z3 (z3 rv 8 nr none) 9 nr none) 10 nr none) 9 nr 2 (some (10, nr))) 8 nr 1 (some (9, nr))) 2 0 nr (some (8, nr))) := (f2.ref l9).ref l8
          have hM3 : MD A3 (u3 (u3 (u3 (z3 (z3 (z3 rv 8 nr none) 9 nr none) 10 nr none) 9 nr 2 (some (10, nr))) 8 nr 1 (some (9, nr))) 2 0 nr (some (8, nr))) := hM.to hI3 lm (fun j => by simp [u3, z3])
          have P0 : PAT A3 (u3 (u3 (z3 (z3 (z3 iv 8 nr 0) 9 nr 0) 10 nr 0) 9 nr 0 (nI (rcM w s))) 9 nr 1 (nI (rrM hh s))) (u3 (z3 (z3 (z3 rv 8 nr none) 9 nr none) 10 nr none) 9 nr 2 (some (10, nr))) i w hh s := p1.to lm (by simp [u3, z3]) (by simp [u3, z3]) (fun j => by simp [u3, z3]) (fun j => by simp [u3, z3])
          have C0 : CEL A3 (u3 (u3 (z3 (z3 (z3 iv 8 nr 0) 9 nr 0) 10 nr 0) 9 nr 0 (nI (rcM w s))) 9 nr 1 (nI (rrM hh s))) (u3 (z3 (z3 (z3 rv 8 nr none) 9 nr none) 10 nr none) 9 nr 2 (some (10, nr))) 9 10 nr (rcM w s) (rrM hh s) := ⟨l9, l10, by rfl, by rfl, by rfl, by simp [u3], by simp [u3], by simp [u3], c1, c2, r1, r2⟩
          have q0 : ∀ a b, pcN (cF (u3 (u3 (z3 (z3 (z3 iv 8 nr 0) 9 nr 0) 10 nr 0) 9 nr 0 (nI (rcM w s))) 9 nr 1 (nI (rrM hh s))) i w) w hh s a b = pcN (cF iv i w) w hh s a b := by
            intro a b
            have e : cF (u3 (u3 (z3 (z3 (z3 iv 8 nr 0) 9 nr 0) 10 nr 0) 9 nr 0 (nI (rcM w s))) 9 nr 1 (nI (rrM hh s))) i w = cF iv i w := by
              funext x y
              simp [cF, u3, z3]
            rw [e]
          obtain ⟨ivd, y1, y2, y3, y4⟩ := draw18 (rv := u3 (z3 (z3 (z3 rv 8 nr none) 9 nr none) 10 nr none) 9 nr 2 (some (10, nr))) (t := nr) hI3 (fun a b => pcN (cF iv i w) w hh s a b) 1000 0 (by omega) (by omega) (z + 1 + 1 + 1) _ ov P0 C0 q0
          have ivd1 : ∀ T a b, T ≠ 8 → T ≠ 9 → T ≠ 10 → ivd T a b = iv T a b := by
            intro T a b x1 x2 x3
            rw [y2 T a b (by omega)]
            simp [u3, z3, x1, x2, x3]
          have ivd2 : ∀ T a b, a ≠ nr → ivd T a b = iv T a b := by
            intro T a b x1
            rw [y2 T a b (by omega)]
            simp [u3, z3, x1]
          have ivd9 : ivd 9 nr 0 = nI (rcM w s) ∧ ivd 9 nr 1 = nI (rrM hh s) := by
            rw [y2 _ _ _ (by omega), y2 _ _ _ (by omega)]
            simp [u3, z3]
          -- the reference's side
          have E1 : MPA (u3 (u3 (u3 (u3 (u3 (u3 ivd 8 nr 0 (nI rd)) 0 0 3 (nI (nr + 1))) 20 0 0 0) 20 0 6 (nI (nr + 1))) 25 0 nr (nI i)) 26 0 nr (nI rd)) i w hh s := p2.to (by rw [u3_T (by decide), u3_T (by decide), u3_T (by decide), u3_T (by decide), u3_T (by decide), u3_T (by decide), ivd1 _ _ _ (by decide) (by decide) (by decide)]) (by rw [u3_T (by decide), u3_T (by decide), u3_T (by decide), u3_T (by decide), u3_T (by decide), u3_T (by decide), ivd1 _ _ _ (by decide) (by decide) (by decide)]) (by rw [u3_T (by decide), u3_T (by decide), u3_T (by decide), u3_T (by decide), u3_T (by decide), u3_T (by decide), ivd1 _ _ _ (by decide) (by decide) (by decide)])
          have E2 : ∀ a b, pcN (mF (u3 (u3 (u3 (u3 (u3 (u3 ivd 8 nr 0 (nI rd)) 0 0 3 (nI (nr + 1))) 20 0 0 0) 20 0 6 (nI (nr + 1))) 25 0 nr (nI i)) 26 0 nr (nI rd)) i) w hh s a b = pcN (mF iv i) w hh s a b := by
            intro a b
            have e : mF (u3 (u3 (u3 (u3 (u3 (u3 ivd 8 nr 0 (nI rd)) 0 0 3 (nI (nr + 1))) 20 0 0 0) 20 0 6 (nI (nr + 1))) 25 0 nr (nI i)) 26 0 nr (nI rd)) i = mF iv i := by
              funext x y
              unfold mF
              rw [u3_T (by decide), u3_T (by decide), u3_T (by decide), u3_T (by decide), u3_T (by decide), u3_T (by decide), ivd1 _ _ _ (by decide) (by decide) (by decide)]
            rw [e]
          obtain ⟨iv2, x1, x2, x3, x4⟩ := eng100 (t := nr) hM3 hn (fun a b => pcN (mF iv i) w hh s a b) 1000 0 (by omega) (by omega) _ E1 E2
          refine fin_ok (x := nI nr) (A := A3) (iv1 := u3 (u3 ivd 8 nr 0 (nI rd)) 0 0 3 (nI (nr + 1))) (iv2 := iv2) (rv := u3 (u3 (u3 (z3 (z3 (z3 rv 8 nr none) 9 nr none) 10 nr none) 9 nr 2 (some (10, nr))) 8 nr 1 (some (9, nr))) 2 0 nr (some (8, nr))) (ov := ov) (z := z + 1 + 1 + 1) (np := np) (nr := nr + 1) (nl := nl) ?_ (fun z1 ov' => ?_) ?_ hF3 (a_ 0 0 (by decide) (by decide) (by decide)) (a_ 20 0 (by decide) (by decide) (by decide)) (a_ 18 0 (by decide) (by decide) (by decide)) ?_
          · unfold F_X7_roller
            rw [cHead, req_in hv2', bnd_v, gfI_hv hA a1 (by rfl) (by decide) (by rfl), a6, wrap_spec (by omega) (by omega), bnd_v, wm_nI (by omega), hmod, if_pos (by rfl), gfI_hv hA t0 (by rfl) (by decide) (by rfl), n4, if_neg (nI_pos (by omega)), gfR_hv hA t0 (by rfl) (by decide) (by rfl), w1, rfv_s, nn_s, alen_R (k := 1) hA t2 (by rfl) (by decide), show kn 2 = 8 from rfl, if_pos (nI_lt hn (by decide)), gfR_hv hA t0 (by rfl) (by decide) (by rfl), w1, rfv_s, hnew1, g1]
            unfold F_X3_drawn
            rw [hnew2, g2, g3]
            unfold F_X0_init
            rw [hnew3, pfR_hv hI3 l9 (by rfl) (by decide) (by rfl), pf_hv hI3 l9 (by rfl) (by decide) (by rfl), pf_hv hI3 l9 (by rfl) (by decide) (by rfl), bnd_v, ← a_ 5 i (by decide) (by decide) (by decide)]
            show bnd (F_X3_drawn_b18 1000 (A3.1 5 i) (A3.1 9 nr) (nI 0) _) _ = _
            rw [y1, bnd_v]
            unfold F_X4_init
            rw [pf_hv hI3 l8 (by rfl) (by decide) (by rfl), pfR_hv hI3 l8 (by rfl) (by decide) (by rfl), bnd_v, nn_s, ← a_ 2 0 (by decide) (by decide) (by decide), astR_hv (q := 1) hI3 (lm _ _ t2) (by rfl) (show nr < 8 from hn) l8 (by rfl) (by decide), ← a_ 0 0 (by decide) (by decide) (by decide), pf_hv hI3 (lm _ _ t0) (by rfl) (by decide) (by rfl), nI_1]
          · have e1 : u3 (u3 ivd 8 nr 0 (nI rd)) 0 0 3 (nI (nr + 1)) 20 0 1 = nI np := by
              rw [u3_T (by decide), u3_T (by decide), ivd1 _ _ _ (by decide) (by decide) (by decide)]
              exact n2
            have e6 : u3 (u3 ivd 8 nr 0 (nI rd)) 0 0 3 (nI (nr + 1)) 20 0 6 = nI nr := by
              rw [u3_T (by decide), u3_T (by decide), ivd1 _ _ _ (by decide) (by decide) (by decide)]
              exact n5
            have E0 : MPA (u3 (u3 ivd 8 nr 0 (nI rd)) 0 0 3 (nI (nr + 1))) i w hh s := p2.to (by rw [u3_T (by decide), u3_T (by decide), ivd1 _ _ _ (by decide) (by decide) (by decide)]) (by rw [u3_T (by decide), u3_T (by decide), ivd1 _ _ _ (by decide) (by decide) (by decide)]) (by rw [u3_T (by decide), u3_T (by decide), ivd1 _ _ _ (by decide) (by decide) (by decide)])
            have x1' := x1 z1 ov'
            generalize u3 (u3 ivd 8 nr 0 (nI rd)) 0 0 3 (nI (nr + 1)) = iv1 at e1 e6 E0 x1' ⊢
            unfold F_X8_roller F_X8_isPattern
            rw [← a_ 20 0 (by decide) (by decide) (by decide), mO hM3, mI1 hM3, e1, (is_ix (by omega)).1 hx', bnd_v, rtZ_1, bnd_v, is_in hv2', bnd_v, if_neg (by decide), if_neg (by decide), mO hM3, rows_spec hM3 E0, bnd_v, nz_p (nI_ne0 (by omega) (by omega)), eirm, hmod, if_pos (by rfl), mI6 hM3, e6, if_neg (show ¬ nI nr = 8 from fun q => by have := nI_inj (b := 8) (by omega) (by omega) q; omega)]
            unfold F_X8_roller_b57
            rw [mO hM3, ref0 hM3, bnd_v, if_pos rfl, mI6 hM3, u3_n (by omega), e6, mI6 hM3, u3_n (by omega), e6, nI_1, mP6 hM3, mR7 hM3, nn_s, mS7 hM3 hn, mR8 hM3, nn_s, mS8 hM3 hn]
            exact x1'
          · rw [x2 _ _ _ (by decide)]
            simp [u3]
          · have e : ∀ T a b, T ≠ 0 ∧ T ≠ 8 ∧ T ≠ 9 ∧ T ≠ 10 ∧ T ≠ 20 ∧ T ≠ 25 ∧ T ≠ 26 ∧ T ≠ 27 → iv2 T a b = iv T a b := by
              rintro T a b ⟨y1, y2, y3, y4, y5, y6, y7, y8⟩
              rw [x2 _ _ _ y8, u3_T y7, u3_T y6, u3_T y5, u3_T y5, u3_T y1, u3_T y2, ivd1 _ _ _ y2 y3 y4]
            have e0 : ∀ j, j ≠ 3 → iv2 0 0 j = iv 0 0 j := by
              intro j hj
              rw [x2 _ _ _ (by decide), u3_T (by decide), u3_T (by decide), u3_T (by decide), u3_T (by decide), u3_n (by omega), u3_T (by decide), ivd1 _ _ _ (by decide) (by decide) (by decide)]
            have e03 : iv2 0 0 3 = nI (nr + 1) := by
              rw [x2 _ _ _ (by decide), u3_T (by decide), u3_T (by decide), u3_T (by decide), u3_T (by decide), u3_s]
            have e20 : ∀ j, j ≠ 0 → j ≠ 6 → iv2 20 0 j = iv 20 0 j := by
              intro j hj hj2
              rw [x2 _ _ _ (by decide), u3_T (by decide), u3_T (by decide), u3_n (by omega), u3_n (by omega), u3_T (by decide), u3_T (by decide), ivd1 _ _ _ (by decide) (by decide) (by decide)]
            have e206 : iv2 20 0 6 = nI (nr + 1) := by
              rw [x2 _ _ _ (by decide), u3_T (by decide), u3_T (by decide), u3_s]
            have e8 : ∀ a b, a ≠ nr → iv2 8 a b = iv 8 a b ∧ iv2 9 a b = iv 9 a b ∧ iv2 10 a b = iv 10 a b := by
              intro a b ha
              rw [x2 _ _ _ (by decide), x2 _ _ _ (by decide), x2 _ _ _ (by decide)]
              simp [u3, ha, ivd2]
            have e8n : iv2 8 nr 0 = nI rd ∧ iv2 9 nr 0 = nI (rcM w s) ∧ iv2 9 nr 1 = nI (rrM hh s) := by
              rw [x2 _ _ _ (by decide), x2 _ _ _ (by decide), x2 _ _ _ (by decide)]
              simp [u3, ivd9]
            have e10n : ∀ y x, y < rrM hh s → x < rcM w s → iv2 10 nr (y * rcM w s + x) = pcN (cF iv i w) w hh s x y := by
              intro y x hy hxx
              rw [x2 _ _ _ (by decide)]
              simp only [u3_T (by decide : 10 ≠ 26), u3_T (by decide : 10 ≠ 25), u3_T (by decide : 10 ≠ 20), u3_T (by decide : 10 ≠ 0), u3_T (by decide : 10 ≠ 8)]
              exact y3 y x (Nat.zero_le _) hy hxx
            have e25 : ∀ a, a ≠ nr → iv2 25 0 a = iv 25 0 a ∧ iv2 26 0 a = iv 26 0 a := by
              intro a ha
              rw [x2 _ _ _ (by decide), x2 _ _ _ (by decide)]
              simp [u3, ha, ivd1]
            have e25n : iv2 25 0 nr = nI i ∧ iv2 26 0 nr = nI rd := by
              rw [x2 _ _ _ (by decide), x2 _ _ _ (by decide)]
              simp [u3]
            have e27 : ∀ j, j < 100 * nr ∨ 100 * nr + 100 ≤ j → iv2 27 0 j = iv 27 0 j := by
              intro j hj
              rw [x4 j (by omega), u3_T (by decide), u3_T (by decide), u3_T (by decide), u3_T (by decide), u3_T (by decide), u3_T (by decide), ivd1 _ _ _ (by decide) (by decide) (by decide)]
            have e27n : ∀ y x, y < rrM hh s → x < rcM w s → iv2 27 0 (100 * nr + 10 * y + x) = pcN (mF iv i) w hh s x y := by
              intro y x hy hxx
              rw [show 100 * nr + 10 * y + x = 100 * nr + (10 * y + x) by omega, x3 _ (Nat.zero_le _) (by omega), show (10 * y + x) % 10 = x by omega, show (10 * y + x) / 10 = y by omega, Nat.mod_eq_of_lt hxx, Nat.mod_eq_of_lt hy]
            have er : ∀ T i j, T ≠ 2 → T ≠ 8 → T ≠ 9 → T ≠ 10 → (u3 (u3 (u3 (z3 (z3 (z3 rv 8 nr none) 9 nr none) 10 nr none) 9 nr 2 (some (10, nr))) 8 nr 1 (some (9, nr))) 2 0 nr (some (8, nr))) T i j = rv T i j := by
              intro T i j y1 y2 y3 y4
              simp [u3, z3, y1, y2, y3, y4]
            have er8 : ∀ i j, i ≠ nr → (u3 (u3 (u3 (z3 (z3 (z3 rv 8 nr none) 9 nr none) 10 nr none) 9 nr 2 (some (10, nr))) 8 nr 1 (some (9, nr))) 2 0 nr (some (8, nr))) 8 i j = rv 8 i j ∧ (u3 (u3 (u3 (z3 (z3 (z3 rv 8 nr none) 9 nr none) 10 nr none) 9 nr 2 (some (10, nr))) 8 nr 1 (some (9, nr))) 2 0 nr (some (8, nr))) 9 i j = rv 9 i j := by
              intro i j hi
              simp [u3, z3, hi]
            have er8n : (u3 (u3 (u3 (z3 (z3 (z3 rv 8 nr none) 9 nr none) 10 nr none) 9 nr 2 (some (10, nr))) 8 nr 1 (some (9, nr))) 2 0 nr (some (8, nr))) 8 nr 1 = some (9, nr) ∧ (u3 (u3 (u3 (z3 (z3 (z3 rv 8 nr none) 9 nr none) 10 nr none) 9 nr 2 (some (10, nr))) 8 nr 1 (some (9, nr))) 2 0 nr (some (8, nr))) 9 nr 2 = some (10, nr) := by simp [u3, z3]
            have er2 : ∀ j, j ≠ nr → (u3 (u3 (u3 (z3 (z3 (z3 rv 8 nr none) 9 nr none) 10 nr none) 9 nr 2 (some (10, nr))) 8 nr 1 (some (9, nr))) 2 0 nr (some (8, nr))) 2 0 j = rv 2 0 j := by
              intro j hj
              simp [u3, z3, hj]
            have er2n : (u3 (u3 (u3 (z3 (z3 (z3 rv 8 nr none) 9 nr none) 10 nr none) 9 nr 2 (some (10, nr))) 8 nr 1 (some (9, nr))) 2 0 nr (some (8, nr))) 2 0 nr = some (8, nr) := by simp [u3, z3]
            clear x1 x2 x3 x4 E1 E2 y1 y2 y3 y4 P0 C0 q0
            generalize (u3 (u3 (u3 (z3 (z3 (z3 rv 8 nr none) 9 nr none) 10 nr none) 9 nr 2 (some (10, nr))) 8 nr 1 (some (9, nr))) 2 0 nr (some (8, nr))) = rv2 at hF3 hM3 er er8 er8n er2 er2n ⊢
            obtain ⟨f1, f2, f3, f4, f5, f6, f7⟩ := h
            refine ⟨hM3, ⟨⟨lm _ _ t0, lm _ _ t1, lm _ _ t2, lm _ _ t3, lm _ _ t4⟩, ⟨(er _ _ _ (by decide) (by decide) (by decide) (by decide)).trans w0, (er _ _ _ (by decide) (by decide) (by decide) (by decide)).trans w1, (er _ _ _ (by decide) (by decide) (by decide) (by decide)).trans w2, (er _ _ _ (by decide) (by decide) (by decide) (by decide)).trans w3⟩, fun i hi => (er _ _ _ (by decide) (by decide) (by decide) (by decide)).trans (w4 i hi), fun i hi => ?_, fun i hi => (er _ _ _ (by decide) (by decide) (by decide) (by decide)).trans (w6 i hi), fun i hi => (er _ _ _ (by decide) (by decide) (by decide) (by decide)).trans (w7 i hi), fun i hi => ?_, fun i hi => ?_, fun i hi => (ln _ _ (by omega)).trans (d3 i hi), lm _ _ t18, fun i hi => o18 i (by rw [← ln 18 i (by omega)]; exact hi)⟩, ⟨(e0 1 (by decide)).trans n1, (e20 1 (by decide) (by decide)).trans n2, n3, e03, e206, hn, (e0 5 (by decide)).trans n7, (e20 10 (by decide) (by decide)).trans n8, n9, by rw [e20 28 (by decide) (by decide), e0 7 (by decide), n10], fun k hk => (e _ _ _ (by decide)).trans (n11 k hk)⟩, fun i hi => (f4 i hi).to lm (er _ _ _ (by decide) (by decide) (by decide) (by decide)) (er _ _ _ (by decide) (by decide) (by decide) (by decide)) ?_ ?_ ?_ ?_ ?_ ?_ ?_, fun i2 hi2 => ?_, fun i hi => (f6 i hi).to (Nat.le_succ _) lm (er _ _ _ (by decide) (by decide) (by decide) (by decide)) ?_ ?_ ?_ ?_ ?_, fun r' hr' => (f7 r' hr').to (Nat.le_refl _) lm (fun w _ hw => ⟨(ln _ _ (by omega)).trans hw.1, (ln _ _ (by omega)).trans hw.2⟩) (fun _ => er _ _ _ (by decide) (by decide) (by decide) (by decide)) (er _ _ _ (by decide) (by decide) (by decide) (by decide)) (fun _ _ => er _ _ _ (by decide) (by decide) (by decide) (by decide)) (fun _ _ => er _ _ _ (by decide) (by decide) (by decide) (by decide)) (fun _ _ => er _ _ _ (by decide) (by decide) (by decide) (by decide)) ?_ ?_ ?_ ?_ ?_ ?_ ?_ ?_ ?_ ?_ ?_ ?_ ?_ ?_ ?_ (fun l k _ hk => ⟨k, Nat.le_refl _, (e _ _ _ (by decide)).trans hk⟩) (fun l q hl hq => ?_)⟩
            · by_cases hin : i = nr
              · subst hin
                rw [er2n, if_pos (by omega)]
              · rw [er2 i hin, w5 i hi]
                by_cases hi2 : i < nr
                · rw [if_pos hi2, if_pos (by omega)]
                · rw [if_neg hi2, if_neg (by omega)]
            · obtain ⟨y1, y2, y3⟩ := d1 i hi
              exact ⟨(ln _ _ (by omega)).trans y1, (ln _ _ (by omega)).trans y2, (ln _ _ (by omega)).trans y3⟩
            · obtain ⟨y1, y2, y3⟩ := d2 i (by omega)
              exact ⟨(ln _ _ (by omega)).trans y1, (ln _ _ (by omega)).trans y2, (ln _ _ (by omega)).trans y3⟩
            rotate_left 7
            · by_cases hin : i2 = nr
              · subst hin
                refine ⟨i, w, hh, s, rd, hi, hn, e25n.1, p2.to (e _ _ _ (by decide)) (e _ _ _ (by decide)) (e _ _ _ (by decide)), l8, er8n.1, ⟨l9, l10, by rfl, by rfl, by rfl, er8n.2, e8n.2.1, e8n.2.2, c1, c2, r1, r2⟩, e8n.1, e25n.2, hd1, hd2, fun x y hxx hy => ?_⟩
                rw [e10n y x hy hxx, e27n y x hy hxx]
                exact pcN_congr (by omega) (by omega) b10 p3
              · exact (f5 i2 (by omega)).to (Nat.le_refl _) lm (er8 _ _ hin).1 (er8 _ _ hin).2 (e8 _ _ hin).1 (e8 _ _ hin).2.1 (e8 _ _ hin).2.1 (fun j => (e8 _ _ hin).2.2) (fun p hp => e _ _ _ (by decide)) (fun p hp => e _ _ _ (by decide)) (fun p hp => e _ _ _ (by decide)) (e25 _ hin).1 (e25 _ hin).2 (fun k hk1 hk2 => e27 k (by omega))
            rotate_left 20
            · obtain ⟨lq, lk, lL, p1, p2, p3, p4, -⟩ := f6 l hl
              rw [p4] at hq
              cases hq
              exact (e8 _ _ (by omega)).2.1
            all_goals intros
            all_goals exact e _ _ _ (by decide)
        · refine op_ref (z := z) (ov := ov) (k := 3) (b := 0) h hF ?_ (fun _ => wc3 (by decide) (by decide)) (by decide) (fun z1 => ?_)
          · unfold F_X7_roller F_X7_roller_b55
            rw [cHead, req_in hv2', bnd_v, gfI_hv hA a1 (by rfl) (by decide) (by rfl), a6, wrap_spec (by omega) (by omega), bnd_v, wm_nI (by omega), hmod, if_pos (by rfl), gfI_hv hA t0 (by rfl) (by decide) (by rfl), n4, if_neg (nI_pos (by omega)), gfR_hv hA t0 (by rfl) (by decide) (by rfl), w1, rfv_s, nn_s, alen_R (k := 1) hA t2 (by rfl) (by decide), show kn 2 = 8 from rfl, if_neg (nI_nlt (by omega) (by omega))]
          · unfold F_X8_roller F_X8_roller_b52
            rw [mO hM, isPat_in h hi, bnd_v, is_in hv2', bnd_v, if_neg (by decide), if_neg (by decide), mO hM, rows_spec hM p2, bnd_v, nz_p (nI_ne0 (by omega) (by omega)), eirm, hmod, if_pos (by rfl), mI6 hM, n5, if_pos (show nI nr = 8 by rw [show nr = 8 by omega]; rfl)]
            exact mbad z1 3 (by omega)
      · refine op_ref (z := z) (ov := ov) (k := 3) (b := 0) h hF ?_ (fun _ => wc3 (by decide) (by decide)) (by decide) (fun z1 => ?_)
        · unfold F_X7_roller
          rw [cHead, req_in hv2', bnd_v, gfI_hv hA a1 (by rfl) (by decide) (by rfl), a6, wrap_spec (by omega) (by omega), bnd_v, wm_nI (by omega), if_neg (nI_ne0 (by omega) (by omega))]
        · unfold F_X8_roller F_X8_roller_b52
          rw [mO hM, isPat_in h hi, bnd_v, is_in hv2', bnd_v, if_neg (by decide), if_neg (by decide), mO hM, rows_spec hM p2, bnd_v, nz_p (nI_ne0 (by omega) (by omega)), eirm, if_neg (nI_ne0 (by omega) (by omega))]
          exact mbad z1 3 (by omega)
    · refine op_ref (z := z) (ov := ov) (k := 2) (b := 0) h hF ?_ (fun _ => wc2 (by decide)) (by decide) (fun z1 => ?_)
      · unfold F_X7_roller
        rw [cHead, req_out hv2, bnd_t]
      · unfold F_X8_roller
        rw [mO hM, isPat_in h hi, bnd_v, is_out hv2, bnd_v, if_neg (by decide), if_pos rfl]
        exact mbad z1 2 (by omega)
  · refine op_ref (z := z) (ov := ov) (k := 1) (b := 0) h hF ?_ (fun _ => wc1) (by decide) (fun z1 => ?_)
    · unfold F_X7_roller
      rw [isO_hv hA t0 (by rfl) (by decide), patAt_out h hx, bnd_t]
    · unfold F_X8_roller
      rw [mO hM, isPat_out h hx, bnd_v]
      by_cases hv2 : inR v2 1 60
      · rw [is_in hv2, bnd_v, if_pos rfl]
        exact mbad z1 1 (by omega)
      · rw [is_out hv2, bnd_v, if_pos rfl]
        exact mbad z1 1 (by omega)
end RO
