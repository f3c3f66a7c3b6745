/-! the law's patternHolds -/
theorem nz_i {y : Int32} {K : Prop} (h : ¬ y = 0) (k : K) : nzP y K := ⟨h, k⟩
theorem nz_l {y : Int64} {K : Prop} (h : ¬ y = 0) (k : K) : nzL y K := ⟨h, k⟩
theorem l_n0 {c : Nat} (h : c < 2 ^ 31) : ¬ lN c < 0 := fun q => by
  have := (lN_lt (a := c) (b := 0) h (by decide)).mp q
  omega
theorem l_p0 {c : Nat} (h : c < 2 ^ 31) : (0 : Int64) ≤ lN c := (lN_le (a := 0) (b := c) (by decide) h).mpr (Nat.zero_le _)
theorem l_n1 {c : Nat} (h1 : 1 ≤ c) (h : c < 2 ^ 31) : ¬ lN c < 1 := fun q => by
  have := (lN_lt (a := c) (b := 1) h (by decide)).mp q
  omega
theorem l_n7 {c : Nat} (h : c ≤ 7) : ¬ (7 : Int64) < lN c := fun q => by
  have := (lN_lt (a := 7) (b := c) (by decide) (by omega)).mp q
  omega
theorem l_ne0 {c : Nat} (h1 : 1 ≤ c) (h : c < 2 ^ 31) : ¬ lN c = 0 := fun q => by
  have := (lN_eq (a := c) (b := 0) h (by decide)).mp q
  omega
section PH
variable {A : Adr} {iv : IVt} {rv : RVt} {ov : Nat → Int64} {z np nr nl : Nat} {Q : Int32 → hpT → Prop}
theorem ph92 {p w hh s rc rr X2 X3 : Nat} (hI : INV A iv rv np nr nl) (hp : p < np) (hP : PAT A iv rv p w hh s) (h7 : ∀ k, ∃ c, c ≤ 7 ∧ iv 7 p k = nI c) (hX2 : X2 < 2 ^ 31) (hX3 : X3 < 2 ^ 31) (hrc : rc ≤ 10) (hrr : rr ≤ 10) (hSc : STAY (pcN (cF iv p w) w hh s) (rcM w s) (rrM hh s) rc 0) (hSr : STAY (pcN (cF iv p w) w hh s) (rcM w s) (rrM hh s) 0 rr) (q : Q 1 (z, hv A iv rv ov)) : ∀ n t, t ≤ 8 → 8 < t + n → P_L_patternHolds_b92 n (A.1 0 0) (nI p) (nI X2) (nI X3) (nI (rcM w s)) (nI (rrM hh s)) (lN rc) (lN rr) 1 (nI t) (z, hv A iv rv ov) Q := by
  obtain ⟨a1, a2, a3, a4, a5, a6, a7, a8, a9, a10⟩ := id hP
  obtain ⟨g1, g2, g3, g4, g5, g6, g7, g8, g9, g10, g11, g12⟩ := id a2
  have c2 := rcM_le (w := w) (s := s) a7
  have r2 := rrM_le (w := hh) (s := s) a8
  intro n
  induction n with
  | zero => intro t a b; omega
  | succ n ih =>
    intro t ht hn
    unfold P_L_patternHolds_b92
    by_cases h8 : 8 ≤ t
    · rw [if_pos (show (8 : Int32) ≤ nI t from nI_le (a := 8) h8 (by omega))]
      exact ⟨Or.inr rfl, q⟩
    · have e1 : (1 : Int32) + nI t = nI (1 + t) := nI_add 1 t
      have s1 : ∀ X, X < 2 ^ 31 → SM (irm (nI X / nI (1 + t)) 50 - 25) 50 := by
        intro X hX
        have hd := Nat.div_le_self X (1 + t)
        rw [pk_div hX (by omega) (by omega), show (50 : Int32) = nI 50 from rfl, irm_n (by omega) (by decide) (by decide), show (25 : Int32) = nI 25 from rfl]
        have hm := Nat.mod_lt (X / (1 + t)) (show 0 < 50 by decide)
        unfold SM
        rw [pk_sub_toInt (by omega) (by decide)]
        omega
      rw [if_neg (show ¬ (8 : Int32) ≤ nI t from nI_ge (b := 8) (by omega) (by decide)), if_neg (by decide), lN_i rc, lN_i rr, e1]
      refine nz_i (nI_ne0 (by omega) (by omega)) (nz_i (by decide) (nz_i (nI_ne0 (by omega) (by omega)) (nz_i (by decide) ?_)))
      have sa := s1 X2 hX2
      have sb := s1 X3 hX3
      generalize irm (nI X2 / nI (1 + t)) 50 - 25 = a at sa ⊢
      generalize irm (nI X3 / nI (1 + t)) 50 - 25 = b at sb ⊢
      obtain ⟨c, hc7, ec⟩ : ∃ c, c ≤ 7 ∧ pcol (iv 7 p) w hh s a b = nI c := h7 _
      have k1 := k_colour (z := z) (ov := ov) (x := a) (y := b) hI hp hP
      have k2 := k_colour (z := z) (ov := ov) (x := a + nI (rcM w s)) (y := b) hI hp hP
      have k3 := k_colour (z := z) (ov := ov) (x := a) (y := b - nI (rrM hh s)) hI hp hP
      have k4 := k_colour (z := z) (ov := ov) (x := a - nI rc) (y := b) hI hp hP
      have k5 := k_colour (z := z) (ov := ov) (x := a) (y := b + nI rr) hI hp hP
      rw [pc_wide g9 g11 sa c2, ec] at k2
      rw [pc_high g9 g11 sb r2, ec] at k3
      rw [pc_across g9 g11 sa hrc hSc, ec] at k4
      rw [pc_along g9 g11 sb hrr hSr, ec] at k5
      rw [ec] at k1
      refine q_ok hI k1 ?_
      rw [nI_l (by omega), if_neg (l_n0 (by omega)), if_neg (l_n7 hc7)]
      refine q_ok hI k2 ?_
      rw [nI_l (by omega), if_pos rfl]
      refine q_ok hI k3 ?_
      rw [nI_l (by omega), if_pos rfl]
      refine q_ok hI k4 ?_
      rw [nI_l (by omega), if_pos rfl]
      refine q_ok hI k5 ?_
      rw [nI_l (by omega), if_pos rfl]
      unfold P_L_patternHolds_b238
      rw [nI_1]
      exact ih (t + 1) (by omega) (by omega)
theorem pat_holds {p X2 X3 : Nat} (hI : INV A iv rv np nr nl) (hp : p < np) (hX2 : X2 < 2 ^ 31) (hX3 : X3 < 2 ^ 31) (q : Q 1 (z, hv A iv rv ov)) : P_L_patternHolds (A.1 0 0) (nI p) (nI X2) (nI X3) (z, hv A iv rv ov) Q := by
  obtain ⟨w, hh, s, hP, h7⟩ := hI.2.2.2.1 p hp
  obtain ⟨a1, a2, a3, a4, a5, a6, a7, a8, a9, a10⟩ := id hP
  obtain ⟨g1, g2, g3, g4, g5, g6, g7, g8, g9, g10, g11, g12⟩ := id a2
  have c1 := rcM_pos (w := w) (s := s) g9
  have c2 := rcM_le (w := w) (s := s) a7
  have r1 := rrM_pos (w := hh) (s := s) g11
  have r2 := rrM_le (w := hh) (s := s) a8
  obtain ⟨rc, -, hLc⟩ := least_ex (S := MOVES (pcN (cF iv p w) w hh s) (rcM w s) (rrM hh s) false) (m := rcM w s) c1 moves_full
  obtain ⟨rr, -, hLr⟩ := least_ex (S := MOVES (pcN (cF iv p w) w hh s) (rcM w s) (rrM hh s) true) (m := rrM hh s) r1 moves_full
  obtain ⟨m1, m2, m3, m4⟩ := least0 hLc c1
  obtain ⟨n1, n2, n3, n4⟩ := least1 hLr r1
  unfold P_L_patternHolds P_L_patternHolds_b0
  refine q_ok hI (k_rep0 hI hp hP) ?_
  refine q_ok hI (k_rep1 hI hp hP) ?_
  refine q_ok hI (k_anew0 hI hp hP hLc) ?_
  refine q_ok hI (k_anew1 hI hp hP hLr) ?_
  simp only [tl]
  rw [nI_l (n := rc) (by omega), nI_l (n := rr) (by omega), nI_l (n := rcM w s) (by omega), nI_l (n := rrM hh s) (by omega), if_neg (show ¬ nI (rcM w s) < 1 from nI_nlt (b := 1) c1 (by omega)), if_neg (show ¬ nI (rrM hh s) < 1 from nI_nlt (b := 1) r1 (by omega)), if_neg (l_n1 m1 (by omega)), if_neg (l_n1 n1 (by omega))]
  refine nz_l (l_ne0 m1 (by omega)) ?_
  rw [if_pos (show lrm (lN (rcM w s)) (lN rc) = 0 by rw [lrm_l (by omega) (by omega) (by omega), m3]; rfl)]
  refine nz_l (l_ne0 n1 (by omega)) ?_
  rw [if_pos (show lrm (lN (rrM hh s)) (lN rr) = 0 by rw [lrm_l (by omega) (by omega) (by omega), n3]; rfl)]
  unfold P_L_patternHolds_b87
  exact ph92 hI hp hP h7 hX2 hX3 (by omega) (by omega) m2 n2 q 9 0 (by omega) (by omega)
end PH
