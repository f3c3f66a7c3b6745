/-! the law's run: patterns and rollers at its start -/
def LB (a1 a3 : Nat) (A : Adr) (iv : IVt) (rv : RVt) (np nr : Nat) : Prop := INV A iv rv np nr 0 ∧ (A.1 0 0 = a1 ∧ A.1 18 0 = a3) ∧ A.2.2 18 0 = true ∧ (∀ i, A.2.2 19 i = false) ∧ SDS A iv rv np ∧ RRl iv nr ∧ (∀ r, r < 4 → iv 12 r 2 = nI 0) ∧ iv 0 0 7 = nI 0
section LN
variable {A : Adr} {iv : IVt} {rv : RVt} {ov : Nat → Int64} {z np nr nl a1 a3 L : Nat} {xs : Nat → Int32} {Q : Int32 → hpT → Prop}
theorem al_frk {T i : Nat} (hO : OKA A rv z) (hn : A.2.2 T i = false) : FRK A iv rv (alA A T i z) (z3 iv T i 0) (z3 rv T i none) := by
  have ne : ∀ T' i', A.2.2 T' i' = true → ¬ (T' = T ∧ i' = i) := fun T' i' hl q => by rw [q.1, q.2, hn] at hl; cases hl
  exact ⟨fun T' i' hl => ⟨alA_lt hl, alA_n (ne T' i' hl)⟩, fun T' i' j _ hl => z3_n (ne T' i' hl), fun T' i' j _ hl => z3_n (ne T' i' hl)⟩
theorem INV.al {T i : Nat} (h : INV A iv rv np nr nl) (hO : OKA A rv z) (hn : A.2.2 T i = false) (hT : T = 18 ∨ T = 19) : INV (alA A T i z) (z3 iv T i 0) (z3 rv T i none) np nr nl := by
  obtain ⟨f1, ⟨⟨t0, t1, t2, t3, t4⟩, ⟨w0, w1, w2, w3⟩, w4, w5, w6, w7, d1, d2, d3⟩, f3, f4, f5, f6, f7⟩ := h
  have lm : ∀ T' i', A.2.2 T' i' = true → (alA A T i z).2.2 T' i' = true := fun T' i' => alA_lt
  have ln : ∀ T' i', T' ≤ 17 → (alA A T i z).2.2 T' i' = A.2.2 T' i' := fun T' i' q => alA_ln (by omega)
  have e : ∀ T' i' j, T' ≤ 17 → z3 iv T i 0 T' i' j = iv T' i' j := fun T' i' j q => z3_n (by omega)
  have er : ∀ T' i' j, T' ≤ 17 → z3 rv T i none T' i' j = rv T' i' j := fun T' i' j q => z3_n (by omega)
  refine ⟨(hO.al hn).1, ⟨⟨lm _ _ t0, lm _ _ t1, lm _ _ t2, lm _ _ t3, lm _ _ t4⟩, ⟨(er _ _ _ (by decide)).trans w0, (er _ _ _ (by decide)).trans w1, (er _ _ _ (by decide)).trans w2, (er _ _ _ (by decide)).trans w3⟩, fun i hi => (er _ _ _ (by decide)).trans (w4 i hi), fun i hi => (er _ _ _ (by decide)).trans (w5 i hi), fun i hi => (er _ _ _ (by decide)).trans (w6 i hi), fun i hi => (er _ _ _ (by decide)).trans (w7 i hi), fun i hi => ?_, fun i hi => ?_, fun i hi => (ln _ _ (by decide)).trans (d3 i hi)⟩, f3.to (fun j _ => e _ _ _ (by decide)), fun i hi => (f4 i hi).to lm (er _ _ _ (by decide)) (er _ _ _ (by decide)) (fun j => e _ _ _ (by decide)) (fun j => e _ _ _ (by decide)) ((f4 i hi).col (fun j => e _ _ _ (by decide))), fun i hi => (f5 i hi).to lm (er _ _ _ (by decide)) (er _ _ _ (by decide)) (e _ _ _ (by decide)) (e _ _ _ (by decide)) (e _ _ _ (by decide)), fun i hi => (f6 i hi).to (Nat.le_refl _) lm (er _ _ _ (by decide)) (fun _ => e _ _ _ (by decide)), fun r' hr' => (f7 r' hr').to (Nat.le_refl _) lm (fun w hw q => ⟨(ln _ _ (by decide)).trans q.1, (ln _ _ (by decide)).trans q.2⟩) (fun _ => er _ _ _ (by decide)) (er _ _ _ (by decide)) (fun _ _ => er _ _ _ (by decide)) (fun _ _ => er _ _ _ (by decide)) (fun _ _ => er _ _ _ (by decide)) (fun j => e _ _ _ (by decide)) (fun _ => e _ _ _ (by decide)) (fun _ => e _ _ _ (by decide)) (fun _ _ _ => e _ _ _ (by decide)) (fun _ _ _ => e _ _ _ (by decide)) (fun _ _ => e _ _ _ (by decide)) (fun l k _ hk => ⟨k, Nat.le_refl _, (e _ _ _ (by decide)).trans hk⟩) (fun _ _ _ _ => e _ _ _ (by decide))⟩
  · obtain ⟨y1, y2, y3⟩ := d1 i hi
    exact ⟨(ln _ _ (by decide)).trans y1, (ln _ _ (by decide)).trans y2, (ln _ _ (by decide)).trans y3⟩
  · obtain ⟨y1, y2, y3⟩ := d2 i hi
    exact ⟨(ln _ _ (by decide)).trans y1, (ln _ _ (by decide)).trans y2, (ln _ _ (by decide)).trans y3⟩
theorem q_newI {T i n : Nat} {K : Nat → hpT → Prop} (hO : OKA A rv z) (hn : A.2.2 T i = false) (hk : kc T = 10) (hk2 : kn T = n) (q : K ((alA A T i z).1 T i) (z + 1, hv (alA A T i z) (z3 iv T i 0) (z3 rv T i none) ov)) : newIP (z, hv A iv rv ov) n K := by
  have h := hpush_hv (e := oI n (fun _ => 0)) (iv' := z3 iv T i 0) (rv' := z3 rv T i none) (ov := ov) (iv := iv) hO hn (by
    rw [cont_I hk, ← hk2, z3_own]) (fun T' i' q => z3_row q) (fun T' i' q => z3_row q) (fun j => z3_s)
  unfold newIP
  rw [h.1]
  rw [alA_s] at q
  exact q
theorem LB.s18 {j : Nat} {x : Int32} (h : LB a1 a3 A iv rv np nr) (hj : 2 * np ≤ j) : LB a1 a3 A (u3 iv 18 0 j x) rv np nr := by
  obtain ⟨g1, g2, g3, g4, g5, g6, g7, g8⟩ := h
  refine ⟨g1.scr (Or.inl rfl), g2, g3, g4, fun p hp => ?_, fun q hq => ?_, fun r hr => (u3_T (by decide)).trans (g7 r hr), (u3_T (by decide)).trans g8⟩
  · obtain ⟨w, hh, s, hP, e1, e2⟩ := g5 p hp
    exact ⟨w, hh, s, hP.to (fun _ _ q => q) rfl rfl (fun _ => u3_T (by decide)) (fun _ => u3_T (by decide)), (u3_n (by omega)).trans e1, (u3_n (by omega)).trans e2⟩
  · rw [u3_T (by decide), u3_T (by decide)]
    exact g6 q hq
theorem b89_ok {w hh s p : Nat} {K18 : Nat → Int32 → Nat → Int32 → hpT → (Int32 → hpT → Prop) → Prop} (hB : LB a1 a3 A iv rv p 0) (hO : OKA A rv z) (hp : p < 3) (h18 : iv 18 0 (2 * p) = nI w) (hw1 : 1 ≤ w) (hw2 : w ≤ 5) (hh1 : 1 ≤ hh) (hh2 : hh ≤ 5) (hs5 : s ≤ 5) (hsq : s = 5 → w = hh) (hK : ∀ A iv rv z, LB a1 a3 A iv rv (p + 1) 0 → OKA A rv z → K18 a1 1 a3 (nI (p + 1)) (z, hv A iv rv ov) Q) : P_L_law_b89 L xs K18 a1 a3 (nI p) (nI s) (nI hh) (nI (2 * p + 1)) a3 (z, hv A iv rv ov) Q := by
  have hB1 : LB a1 a3 A (u3 iv 18 0 (2 * p + 1) (nI hh)) rv p 0 := hB.s18 (by omega)
  obtain ⟨g1, ⟨g2, g2'⟩, g3, g4, g5, g6, g7, g8⟩ := id hB1
  obtain ⟨⟨t0, -⟩, -⟩ := id g1.2.1
  have x2 : (2 : Int32) * nI p = nI (2 * p) := pk_mul 2 _
  obtain ⟨A', iv', rv', e, hO', hI', hF, hW, hPN, e7, e19⟩ := k_pattern (ov := ov) hO g1 (by omega) hw1 hw2 hh1 hh2 hs5 hsq
  have s5 := g5.to hF g3
  have hB' : LB a1 a3 A' iv' rv' (p + 1) 0 := by
    refine ⟨hI', ⟨(hF.1 0 0 t0).2.trans g2, (hF.1 18 0 g3).2.trans g2'⟩, (hF.1 18 0 g3).1, fun i => (e19 i).trans (g4 i), fun p' hp' => ?_, fun q hq => absurd hq (Nat.not_lt_zero q), fun r hr => (hW.1 r).trans (g7 r hr), e7.trans g8⟩
    by_cases hpp : p' = p
    · subst hpp
      exact ⟨w, hh, s, hPN, (hF.2.1 18 0 _ (by decide) g3).trans ((u3_n (by omega)).trans h18), (hF.2.1 18 0 _ (by decide) g3).trans u3_s⟩
    · exact s5 p' (by omega)
  unfold P_L_law_b89
  rw [x2, nI_1, ← g2']
  refine q_ast hB.1.1 g3 (by rfl) (show 2 * p + 1 < 6 by omega) ?_
  refine q_ald hB.1.1 g3 (by rfl) (show 2 * p < 6 by omega) ?_
  refine q_ald hB.1.1 g3 (by rfl) (show 2 * p + 1 < 6 by omega) ?_
  rw [u3_s, u3_n (by omega), h18, g2', ← g2]
  refine q_ok g1 e ?_
  rw [if_pos rfl, g2]
  unfold P_L_law_b122
  rw [nI_1]
  exact hK _ _ _ _ hB' hO'
theorem law135 (hL : L < 2 ^ 31) (hQ : ∀ h, Q 1 h) : ∀ n q A iv rv z, q ≤ 6 → 6 < q + n → LB a1 a3 A iv rv 3 q → OKA A rv z → P_L_law_b135 L xs n a1 1 a3 (nI q) (nI q) (z, hv A iv rv ov) Q := by
  intro n
  induction n with
  | zero => intro q A iv rv z h1 h2; omega
  | succ n ih =>
    intro q A iv rv z hq hn hB hO
    obtain ⟨g1, ⟨g2, g2'⟩, g3, g4, g5, g6, g7, g8⟩ := id hB
    obtain ⟨⟨t0, -⟩, -⟩ := id g1.2.1
    unfold P_L_law_b135
    by_cases h6 : 6 ≤ q
    · have h6' : q = 6 := by omega
      subst h6'
      rw [if_pos (show (6 : Int32) ≤ nI 6 from nI_le (a := 6) (by decide) (by decide))]
      unfold P_L_law_b197
      refine q_newI (T := 19) (i := 0) hO (g4 0) (by rfl) (by rfl) ?_
      have hF : FRK A iv rv (alA A 19 0 z) (z3 iv 19 0 0) (z3 rv 19 0 none) := al_frk hO (g4 0)
      have hS : LSt a1 a3 ((alA A 19 0 z).1 19 0) (alA A 19 0 z) (z3 iv 19 0 0) (z3 rv 19 0 none) 0 0 := by
        refine ⟨g1.al hO (g4 0) (Or.inr rfl), ⟨(hF.1 0 0 t0).2.trans g2, (hF.1 18 0 g3).2.trans g2', rfl⟩, ⟨(hF.1 18 0 g3).1, alA_l⟩, g5.to hF g3, g6.to g1 (Nat.le_refl _) (Nat.le_refl _) hF, fun r n w hr hn hn4 hw => ?_, ⟨0, (z3_n (by decide)).trans g8, Nat.zero_le _⟩⟩
        rw [z3_n (by omega), g7 r hr] at hn
        have := nI_inj (a := 0) (b := n) (by decide) (by omega) hn
        omega
      exact law209 hL hQ 47 0 0 _ _ _ _ (by decide) (by decide) hS (hO.al (g4 0))
    · have hm := Nat.mod_lt q (show 0 < 3 by decide)
      have hd3 : q / 3 ≤ 1 := by omega
      obtain ⟨w, hh, s, hP, e18, e18'⟩ := g5 (q % 3) hm
      obtain ⟨a1', a2', a3', a4', a5', a6', a7', a8', a9', a10'⟩ := id hP
      obtain ⟨c1, c2, c3, c4, c5, c6, c7, c8, c9, c10, c11, c12⟩ := id a2'
      have r1 := rrM_pos (w := hh) (s := s) c11
      have r2 := rrM_le (w := hh) (s := s) a8'
      have hrd : rrM hh s * (1 + q / 3) ≤ 10 * 2 := Nat.mul_le_mul r2 (by omega)
      have hrd1 : 1 * 1 ≤ rrM hh s * (1 + q / 3) := Nat.mul_le_mul r1 (by omega)
      have xr : nI (rrM hh s) * (1 + nI q / 3) = nI (rrM hh s * (1 + q / 3)) := by
        rw [show nI q / 3 = nI (q / 3) from pk_div (d := 3) (by omega) (by decide) (by decide), show (1 : Int32) + nI (q / 3) = nI (1 + q / 3) from nI_add 1 _, pk_mul]
      obtain ⟨A', iv', rv', e, hO', hI', hF, hW, e9, e7, e19⟩ := k_roller (ov := ov) hO g1 hm hP (show 1 ≤ rrM hh s * (1 + q / 3) by omega) (show rrM hh s * (1 + q / 3) ≤ 60 by omega) (Nat.mul_mod_right _ _) (by omega)
      have hB' : LB a1 a3 A' iv' rv' 3 (q + 1) := by
        refine ⟨hI', ⟨(hF.1 0 0 t0).2.trans g2, (hF.1 18 0 g3).2.trans g2'⟩, (hF.1 18 0 g3).1, fun i => (e19 i).trans (g4 i), g5.to hF g3, fun q' hq' => ?_, fun r hr => (hW.1 r).trans (g7 r hr), e7.trans g8⟩
        by_cases hqq : q' = q
        · subst hqq
          rw [e9, hF.2.1 5 (q' % 3) 3 (by decide) hP.1, a6']
        · exact (g6.to g1 (Nat.le_refl _) (Nat.le_refl _) hF) q' (by omega)
      rw [if_neg (show ¬ (6 : Int32) ≤ nI q from nI_ge (b := 6) (by omega) (by decide)), if_neg (by decide)]
      refine nz_i (by decide) ?_
      rw [show irm (nI q) 3 = nI (q % 3) from irm_n (b := 3) (by omega) (by decide) (by decide), ← g2]
      refine q_ok g1 (k_rep1 g1 hm hP) ?_
      refine nz_i (by decide) (nz_i (by decide) ?_)
      rw [tl, xr]
      refine q_ok g1 e ?_
      rw [if_pos rfl, g2]
      unfold P_L_law_b187
      rw [nI_1]
      exact ih (q + 1) _ _ _ _ (by omega) (by omega) hB' hO'
theorem law18 (hL : L < 2 ^ 31) (hQ : ∀ h, Q 1 h) : ∀ n p A iv rv z, p ≤ 3 → 3 < p + n → LB a1 a3 A iv rv p 0 → OKA A rv z → P_L_law_b18 L xs n a1 1 a3 (nI p) (z, hv A iv rv ov) Q := by
  intro n
  induction n with
  | zero => intro p A iv rv z h1 h2; omega
  | succ n ih =>
    intro p A iv rv z hp hn hB hO
    obtain ⟨g1, ⟨g2, g2'⟩, g3, g4, g5, g6, g7, g8⟩ := id hB
    unfold P_L_law_b18
    by_cases h3 : 3 ≤ p
    · have h3' : p = 3 := by omega
      subst h3'
      rw [if_pos (show (3 : Int32) ≤ nI 3 from nI_le (a := 3) (by decide) (by decide))]
      unfold P_L_law_b129
      exact law135 hL hQ 7 0 A iv rv z (by decide) (by decide) hB hO
    · have hK : ∀ A iv rv z, LB a1 a3 A iv rv (p + 1) 0 → OKA A rv z → P_L_law_b18 L xs n a1 1 a3 (nI (p + 1)) (z, hv A iv rv ov) Q := fun A iv rv z hB hO => ih (p + 1) A iv rv z (by omega) (by omega) hB hO
      have x2 : (2 : Int32) * nI p = nI (2 * p) := pk_mul 2 _
      rw [if_neg (show ¬ (3 : Int32) ≤ nI p from nI_ge (b := 3) (by omega) (by decide)), if_neg (by decide), x2, nI_1]
      refine q_draw hL (by omega) (fun j hj => ?_)
      have m5 := Nat.mod_lt j (show 0 < 5 by decide)
      have m6 := Nat.mod_lt (j / 8) (show 0 < 6 by decide)
      have m5' := Nat.mod_lt (j / 64) (show 0 < 5 by decide)
      have hB1 : LB a1 a3 A (u3 iv 18 0 (2 * p) (nI (1 + j % 5))) rv p 0 := hB.s18 (Nat.le_refl _)
      refine nz_i (by decide) ?_
      rw [show (1 : Int32) + irm (nI j) 5 = nI (1 + j % 5) from i1 (m := 1) (b := 5) hj (by decide) (by decide), show irm (nI j / 8) 6 = nI (j / 8 % 6) from i3 (c := 8) (b := 6) hj (by decide) (by decide) (by decide) (by decide), show (1 : Int32) + irm (nI j / 64) 5 = nI (1 + j / 64 % 5) from i2 (m := 1) (c := 64) (b := 5) hj (by decide) (by decide) (by decide) (by decide), ← g2']
      refine q_ast g1.1 g3 (by rfl) (show 2 * p < 6 by omega) ?_
      refine nz_i (by decide) (nz_i (by decide) ?_)
      by_cases e5 : j / 8 % 6 = 5
      · rw [if_pos (show nI (j / 8 % 6) = 5 by rw [e5]; rfl)]
        refine q_ald g1.1 g3 (by rfl) (show 2 * p < 6 by omega) ?_
        rw [u3_s, g2']
        exact b89_ok hB1 hO (by omega) u3_s (by omega) (by omega) (by omega) (by omega) (by omega) (fun _ => rfl) hK
      · rw [if_neg (show ¬ nI (j / 8 % 6) = 5 from fun w => e5 (nI_inj (b := 5) (by omega) (by decide) w))]
        refine nz_i (by decide) (nz_i (by decide) ?_)
        rw [g2']
        exact b89_ok hB1 hO (by omega) u3_s (by omega) (by omega) (by omega) (by omega) (by omega) (fun w => absurd w e5) hK
end LN
