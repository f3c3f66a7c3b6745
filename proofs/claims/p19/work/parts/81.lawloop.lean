/-! the law's run: all steps -/
section LP
variable {A : Adr} {iv : IVt} {rv : RVt} {ov : Nat → Int64} {z nl k r a1 a3 a6 L : Nat} {xs : Nat → Int32} {K209 : Nat → Int32 → Nat → Int32 → Int32 → Nat → Int32 → hpT → (Int32 → hpT → Prop) → Prop} {Q : Int32 → hpT → Prop}
theorem st_pat {j1 j2 : Nat} (hS : LSt a1 a3 a6 A iv rv k nl) (hO : OKA A rv z) (hk : k < 46) (hr : r < 4) (hK : NXT K209 ov a1 a3 a6 k Q) (h1 : j1 < 2 ^ 31) (h2 : j2 < 2 ^ 31) : P_L_patternHolds a1 (irm (nI j2) 3) (nI j2 / 4) (nI j1) (z, hv A iv rv ov) fun v50 h50 => P_L_law_b1140 L xs K209 a1 v50 a3 6 (nI nl) a6 (nI k) (nI r) h50 Q := by
  have hd := Nat.div_le_self j2 4
  rw [show irm (nI j2) 3 = nI (j2 % 3) from irm_n (b := 3) h2 (by decide) (by decide), show nI j2 / 4 = nI (j2 / 4) from pk_div (d := 4) h2 (by decide) (by decide), ← hS.2.1.1]
  refine pat_holds hS.1 (Nat.mod_lt _ (by decide)) (by omega) h1 ?_
  rw [hS.2.1.1]
  exact tail_ok hS.up hO hk hr hK
theorem st_len {j : Nat} (hS : LSt a1 a3 a6 A iv rv k nl) (hO : OKA A rv z) (hk : k < 46) (hr : r < 4) (hK : NXT K209 ov a1 a3 a6 k Q) (hj : j < 2 ^ 31) : P_L_room a1 (nI r) 0 (z, hv A iv rv ov) fun v55 h55 => (if v55.toInt32 = 0 then P_L_law_b808 L xs K209 a1 a3 6 (nI nl) a6 (nI k) (nI j) (nI r) v55.toInt32 0 h55 Q else nzP v55.toInt32 <| P_L_law_b808 L xs K209 a1 a3 6 (nI nl) a6 (nI k) (nI j) (nI r) v55.toInt32 (irm (nI j) v55.toInt32) h55 Q) := by
  obtain ⟨g1, g2, g3, g4, g5, g6, g7, n, g8, g9, -⟩ := hS.1.2.2.2.2.2.2 r hr
  have e0 := k_room0 (z := z) (ov := ov) hS.1 hr
  rw [g9] at e0
  rw [← hS.2.1.1]
  refine q_ok hS.1 e0 ?_
  rw [tl, hS.2.1.1]
  by_cases hn : n = 0
  · subst hn
    rw [if_pos (show nI 0 = 0 from rfl)]
    exact b808_ok (w := 0) hS hO hk hr hK hj g8 g9 (Or.inl ⟨rfl, rfl⟩)
  · have h0 : ¬ nI n = 0 := nI_ne0 (by omega) (by omega)
    rw [if_neg h0]
    refine nz_i h0 ?_
    rw [irm_n hj (by omega) (by omega)]
    exact b808_ok hS hO hk hr hK hj g8 g9 (Or.inr (Nat.mod_lt _ (by omega)))
theorem law209 (hL : L < 2 ^ 31) (hQ : ∀ h, Q 1 h) : ∀ n k nl A iv rv z, k ≤ 46 → 46 < k + n → LSt a1 a3 a6 A iv rv k nl → OKA A rv z → P_L_law_b209 L xs n a1 1 a3 6 (nI nl) a6 (nI k) (z, hv A iv rv ov) Q := by
  intro n
  induction n with
  | zero => intro k nl A iv rv z h1 h2; omega
  | succ n ih =>
    intro k nl A iv rv z hk hn hS hO
    unfold P_L_law_b209
    by_cases h46 : 46 ≤ k
    · rw [if_pos (show (46 : Int32) ≤ nI k from nI_le (a := 46) h46 (by omega))]
      exact ⟨Or.inr rfl, hQ _⟩
    · have hK : NXT (P_L_law_b209 L xs n) ov a1 a3 a6 k Q := fun A iv rv z nl hS hO => ih (k + 1) nl A iv rv z (by omega) (by omega) hS hO
      have hk' : k < 46 := by omega
      have n10 : nl ≤ 10 := hS.1.2.2.1.2.2.2.2.2
      have t3 : (2 : Int32) * nI k + 3 = nI (2 * k + 3) := by rw [show (2 : Int32) = nI 2 from rfl, pk_mul, show (3 : Int32) = nI 3 from rfl, nI_add]
      have t4 : (2 : Int32) * nI k + 4 = nI (2 * k + 4) := by rw [show (2 : Int32) = nI 2 from rfl, pk_mul, show (4 : Int32) = nI 4 from rfl, nI_add]
      rw [if_neg (show ¬ (46 : Int32) ≤ nI k from nI_ge (b := 46) (by omega) (by decide)), if_neg (by decide), t3, t4]
      refine q_draw hL (by omega) (fun j1 h1 => ?_)
      refine q_draw hL (by omega) (fun j2 h2 => ?_)
      refine nz_i (by decide) (nz_i (by decide) (nz_i (by decide) ?_))
      have hop := Nat.mod_lt j1 (show 0 < 11 by decide)
      have hr := Nat.mod_lt (j1 / 16) (show 0 < 4 by decide)
      rw [show irm (nI j1) 11 = nI (j1 % 11) from irm_n (b := 11) h1 (by decide) (by decide), show irm (nI j1 / 16) 4 = nI (j1 / 16 % 4) from i3 (c := 16) (b := 4) h1 (by decide) (by decide) (by decide) (by decide)]
      by_cases c3 : 3 ≤ j1 % 11
      · rw [if_pos (show (3 : Int32) ≤ nI (j1 % 11) from nI_le (a := 3) c3 (by omega))]
        by_cases e3 : j1 % 11 = 3
        · have m1 := Nat.mod_lt j2 (show 0 < 6 by decide)
          have m2 := Nat.mod_lt j2 (show 0 < 10 by decide)
          have m3 := Nat.mod_lt (j2 / 16) (show 0 < 20 by decide)
          have m4 := Nat.mod_lt (j2 / 8) (show 0 < 120 by decide)
          rw [if_pos (show nI (j1 % 11) = 3 by rw [e3]; rfl)]
          refine nz_i (by decide) (nz_i (by decide) (nz_i (by decide) (nz_i (by decide) (nz_i (by decide) (nz_i (by decide) ?_)))))
          rw [show irm (nI j2) 6 = nI (j2 % 6) from irm_n (b := 6) h2 (by decide) (by decide), show irm (nI j2) 10 = nI (j2 % 10) from irm_n (b := 10) h2 (by decide) (by decide), show (1 : Int32) + irm (nI j2 / 16) 20 = nI (1 + j2 / 16 % 20) from i2 (m := 1) (c := 16) (b := 20) h2 (by decide) (by decide) (by decide) (by decide), show (20 : Int32) + irm (nI j2 / 8) 120 = nI (20 + j2 / 8 % 120) from i2 (m := 20) (c := 8) (b := 120) h2 (by decide) (by decide) (by decide) (by decide)]
          exact st_lot hS hO hk' hr hK m1 (by omega) (by omega) (by omega) (by omega) (by omega)
        · rw [if_neg (show ¬ nI (j1 % 11) = 3 from fun w => e3 (nI_inj (b := 3) (by omega) (by decide) w))]
          by_cases c6 : 6 ≤ j1 % 11
          · rw [if_pos (show (6 : Int32) ≤ nI (j1 % 11) from nI_le (a := 6) c6 (by omega))]
            by_cases c8 : 8 ≤ j1 % 11
            · rw [if_pos (show (8 : Int32) ≤ nI (j1 % 11) from nI_le (a := 8) c8 (by omega))]
              unfold P_L_law_b777
              by_cases e8 : j1 % 11 = 8
              · rw [if_pos (show nI (j1 % 11) = 8 by rw [e8]; rfl)]
                exact st_len hS hO hk' hr hK h2
              · rw [if_neg (show ¬ nI (j1 % 11) = 8 from fun w => e8 (nI_inj (b := 8) (by omega) (by decide) w))]
                by_cases e9 : j1 % 11 = 9
                · rw [if_pos (show nI (j1 % 11) = 9 by rw [e9]; rfl)]
                  exact st_strip hS hO hk' hr hK
                · rw [if_neg (show ¬ nI (j1 % 11) = 9 from fun w => e9 (nI_inj (b := 9) (by omega) (by decide) w))]
                  refine nz_i (by decide) (nz_i (by decide) ?_)
                  exact st_pat hS hO hk' hr hK h1 h2
            · rw [if_neg (show ¬ (8 : Int32) ≤ nI (j1 % 11) from nI_ge (b := 8) (by omega) (by decide))]
              by_cases h0 : nl = 0
              · rw [if_pos (show nI nl ≤ 0 by rw [h0]; decide)]
                unfold P_L_law_b777
                rw [if_neg (show ¬ nI (j1 % 11) = 8 from fun w => by have := nI_inj (b := 8) (by omega) (by decide) w; omega), if_neg (show ¬ nI (j1 % 11) = 9 from fun w => by have := nI_inj (b := 9) (by omega) (by decide) w; omega)]
                refine nz_i (by decide) (nz_i (by decide) ?_)
                exact st_pat hS hO hk' hr hK h1 h2
              · rw [if_neg (nI_nle (by omega) (by omega))]
                refine nz_i (nI_ne0 (by omega) (by omega)) ?_
                rw [irm_n h2 (show 0 < nl by omega) (by omega)]
                exact st_hang hS hO hk' hr (Nat.mod_lt _ (by omega)) hK
          · rw [if_neg (show ¬ (6 : Int32) ≤ nI (j1 % 11) from nI_ge (b := 6) (by omega) (by decide))]
            exact st_wall hS hO hk' hr hK h2
      · rw [if_neg (show ¬ (3 : Int32) ≤ nI (j1 % 11) from nI_ge (b := 3) (by omega) (by decide))]
        have mp := Nat.mod_lt j2 (show 0 < 3 by decide)
        have mc := Nat.mod_lt (j2 / 256) (show 0 < 8 by decide)
        obtain ⟨w, hh, s, hP, e18, e18'⟩ := hS.2.2.2.1 (j2 % 3) mp
        obtain ⟨a1', a2', a3', a4', a5', a6', a7', a8', a9', a10'⟩ := id hP
        obtain ⟨g1, g2, g3, g4, g5, g6, g7, g8, g9, g10, g11, g12⟩ := id a2'
        have mX := Nat.mod_lt (j2 / 4) (show 0 < w by omega)
        have mY := Nat.mod_lt (j2 / 32) (show 0 < hh by omega)
        have x2 : (2 : Int32) * nI (j2 % 3) = nI (2 * (j2 % 3)) := pk_mul 2 _
        refine nz_i (by decide) (nz_i (by decide) ?_)
        rw [show irm (nI j2) 3 = nI (j2 % 3) from irm_n (b := 3) h2 (by decide) (by decide), x2, ← hS.2.1.2.1]
        refine q_ald hS.1.1 hS.2.2.1.1 (by rfl) (show 2 * (j2 % 3) < 6 by omega) ?_
        rw [e18, nI_1]
        refine nz_i (nI_ne0 (by omega) (by omega)) (nz_i (by decide) ?_)
        refine q_ald hS.1.1 hS.2.2.1.1 (by rfl) (show 2 * (j2 % 3) + 1 < 6 by omega) ?_
        rw [e18']
        refine nz_i (nI_ne0 (by omega) (by omega)) ?_
        rw [hS.2.1.2.1, show irm (nI j2 / 4) (nI w) = nI (j2 / 4 % w) from i3 (c := 4) h2 (by decide) (by decide) (by omega) (by omega), show irm (nI j2 / 32) (nI hh) = nI (j2 / 32 % hh) from i3 (c := 32) h2 (by decide) (by decide) (by omega) (by omega), show irm (nI j2 / 256) 8 = nI (j2 / 256 % 8) from i3 (c := 256) (b := 8) h2 (by decide) (by decide) (by decide) (by decide), ← hS.2.1.1]
        have kc := k_colour (z := z) (ov := ov) (x := nI (j2 / 4 % w)) (y := nI (j2 / 32 % hh)) hS.1 mp hP
        rw [pc_cell mX mY a7' a8'] at kc
        refine q_ok hS.1 kc ?_
        refine nz_i (by decide) (nz_i (by decide) ?_)
        obtain ⟨ep, hI2⟩ := k_paint (z := z) (ov := ov) (c := j2 / 256 % 8) hS.1 mp hP mX mY (by omega)
        refine q_ok hS.1 ep ?_
        rw [if_pos rfl]
        have hP2 : PAT A (u3 iv 7 (j2 % 3) (j2 / 32 % hh * w + j2 / 4 % w) (nI (j2 / 256 % 8))) rv (j2 % 3) w hh s := hP.to (fun _ _ q => q) rfl rfl (fun _ => u3_T (by decide)) (fun _ => u3_T (by decide))
        have kc2 := k_colour (z := z) (ov := ov) (x := nI (j2 / 4 % w)) (y := nI (j2 / 32 % hh)) hI2 mp hP2
        rw [pc_cell mX mY a7' a8', u3_s] at kc2
        have hS' : LSt a1 a3 a6 A (u3 iv 7 (j2 % 3) (j2 / 32 % hh * w + j2 / 4 % w) (nI (j2 / 256 % 8))) rv (k + 1) nl := hS.to hI2 (FRK.iv (fun T i j q => u3_T (by omega)) (fun _ _ _ _ => rfl)) (hS.2.2.2.2.2.1.fr ⟨fun _ => u3_T (by decide), fun _ => u3_T (by decide)⟩ (fun _ => u3_T (by decide))) (hS.2.2.2.2.2.2.same (u3_T (by decide)))
        refine q_ok hI2 kc2 ?_
        refine nz_i (by decide) (nz_i (by decide) ?_)
        rw [if_pos rfl]
        refine pat_holds hI2 mp h2 h1 ?_
        rw [if_neg (by decide), hS.2.1.1]
        unfold P_L_law_b380
        exact tail_ok hS' hO hk' hr hK
end LP
