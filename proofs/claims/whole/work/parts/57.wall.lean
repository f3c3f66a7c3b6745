/-! wall -/
section WA
variable {A : Adr} {iv : IVt} {rv : RVt} {ov : Nat → Int64} {z np nr nl : Nat}
theorem mwall_spec {r n : Nat} {v2 v3 : Int32} (hM : MD A rv) (hr : r < 4) (h32 : iv 32 0 r = nI n) (hn : n < 4) : F_X8_wall_b71 (A.1 20 0) (nI r) v2 v3 0 (A.1 20 0) (z, hv A iv rv ov) = rtv (nI n) (z, hv A (u3 (u3 (u3 (u3 iv 20 0 0 0) 33 0 (4 * r + n) v2) 34 0 (4 * r + n) v3) 32 0 r (nI (n + 1))) rv ov) := by
  unfold F_X8_wall_b71
  rw [mO hM, ref0 hM, bnd_v, if_pos rfl, mR15 hM, nn_s, mA15 hM hr, u3_T (by decide), h32, mR16 hM, nn_s, wix, mS16 hM (by omega), mR17 hM, nn_s, mS17 hM (by omega), mR15 hM, nn_s, mA15 hM hr, u3_T (by decide), u3_T (by decide), u3_T (by decide), h32, mS15 hM hr, nI_1, mR15 hM, nn_s, mA15 hM hr, u3_s, nI_pred]
theorem sc8 {v1 v2 v3 : Int32} (h : INV A iv rv np nr nl) (hF : RFA A rv) (hz : ∀ a e, hv A iv rv ov a = some e → a < z) : OP A cs_L_wall (F_X7_wall (A.1 0 0) v1 v2 v3 (z, hv A iv rv ov)) (F_X8_wall (A.1 20 0) v1 v2 v3) := by
  have hM := h.1
  have hA := hM.1
  obtain ⟨⟨t0, t1, t2, t3, t4⟩, ⟨w0, w1, w2, w3⟩, w4, w5, w6, w7, d1, d2, d3, t18, o18⟩ := id h.2.1
  have mbad : ∀ (z1 : Nat) (k : Nat), k = 1 ∨ k = 2 ∨ k = 3 → F_X8_wall_b71 (A.1 20 0) v1 v2 v3 (nI k) (A.1 20 0) (z1, hv A iv rv ov) = rtv 0 (z1, hv A (u3 iv 20 0 0 (nI k)) rv ov) := by
    intro z1 k hk
    unfold F_X8_wall_b71
    rw [mO hM, refused_spec hM (by omega), bnd_v]
    rcases hk with rfl | rfl | rfl <;> rfl
  have mout : ∀ (z1 : Nat), ¬ (inR v2 1 12 ∧ inR v3 1 60) → F_X8_wall (A.1 20 0) v1 v2 v3 (z1, hv A iv rv ov) = F_X8_wall_b24 (A.1 20 0) v1 v2 v3 (z1, hv A iv rv ov) := by
    intro z1 hrg
    unfold F_X8_wall
    by_cases q2 : inR v2 1 12
    · rw [is_in q2, bnd_v, if_neg (by decide)]
      by_cases q3 : inR v3 1 60
      · exact absurd ⟨q2, q3⟩ hrg
      · rw [is_out q3, bnd_v, if_pos rfl]
    · rw [is_out q2, bnd_v, if_pos rfl]
  have min_ : ∀ (z1 : Nat) iv' rv' (ov' : Nat → Int64) A', inR v2 1 12 ∧ inR v3 1 60 → F_X8_wall (A.1 20 0) v1 v2 v3 (z1, hv A' iv' rv' ov') = F_X8_wall_b25 (A.1 20 0) v1 v2 v3 1 (z1, hv A' iv' rv' ov') := by
    intro z1 iv' rv' ov' A' hrg
    unfold F_X8_wall
    rw [is_in hrg.1, bnd_v, if_neg (by decide), is_in hrg.2, bnd_v, if_neg (by decide)]
  by_cases hx : ∃ j, j < 4 ∧ v1 = nI j
  · obtain ⟨r, hr, rfl⟩ := hx
    obtain ⟨g1, g2, g3, g4, g5, g6, g7, n, g8, g9, g10, g11, g12, g13, g14⟩ := h.2.2.2.2.2.2 r hr
    by_cases hrg : inR v2 1 12 ∧ inR v3 1 60
    · have hrg' := hrg
      obtain ⟨hv2, hv3⟩ := hrg
      rcases g14 with ⟨b1, b2⟩ | ⟨l, b1, b2, o, ph, L, R, kk, q, q1, q2, q3, q4, q5, q6, q7, q8, q9, q10, q11, q12, q13, q14, q15, q16, q17, q18⟩
      · by_cases hn : n < 4
        · obtain ⟨d, rfl, hd1, hd2⟩ := rg_of (a := 1) (b := 12) (by decide) (by decide) hv2
          obtain ⟨hh, rfl, hh1, hh2⟩ := rg_of (a := 1) (b := 60) (by decide) (by decide) hv3
          have hO := oka_of hA hF hz
          obtain ⟨hd16, hd17⟩ := g12 n (Nat.le_refl _) hn
          have hO1 := hO.al hd16
          have hd17' : (alA A 16 (4 * r + n) z).2.2 17 (4 * r + n) = false := (alA_ln (by omega)).trans hd17
          have hO2 := hO1.al hd17'
          have a13 : (alA (alA A 16 (4 * r + n) z) 17 (4 * r + n) (z + 1)).1 13 r = A.1 13 r := (alA_n (by omega)).trans (alA_n (by omega))
          have a12 : (alA (alA A 16 (4 * r + n) z) 17 (4 * r + n) (z + 1)).1 12 r = A.1 12 r := (alA_n (by omega)).trans (alA_n (by omega))
          have a0 : (alA (alA A 16 (4 * r + n) z) 17 (4 * r + n) (z + 1)).1 0 0 = A.1 0 0 := (alA_n (by omega)).trans (alA_n (by omega))
          have a20 : (alA (alA A 16 (4 * r + n) z) 17 (4 * r + n) (z + 1)).1 20 0 = A.1 20 0 := (alA_n (by omega)).trans (alA_n (by omega))
          have a18 : (alA (alA A 16 (4 * r + n) z) 17 (4 * r + n) (z + 1)).1 18 0 = A.1 18 0 := (alA_n (by omega)).trans (alA_n (by omega))
          have a16 : (alA (alA A 16 (4 * r + n) z) 17 (4 * r + n) (z + 1)).1 16 (4 * r + n) = (alA A 16 (4 * r + n) z).1 16 (4 * r + n) := alA_n (by omega)
          have l17 : (alA (alA A 16 (4 * r + n) z) 17 (4 * r + n) (z + 1)).2.2 17 (4 * r + n) = true := alA_l
          have l16 : (alA (alA A 16 (4 * r + n) z) 17 (4 * r + n) (z + 1)).2.2 16 (4 * r + n) = true := alA_lt alA_l
          have lm : ∀ T i, A.2.2 T i = true → (alA (alA A 16 (4 * r + n) z) 17 (4 * r + n) (z + 1)).2.2 T i = true := fun T i hl => alA_lt (alA_lt hl)
          have ln : ∀ T i, T ≠ 16 → T ≠ 17 → (alA (alA A 16 (4 * r + n) z) 17 (4 * r + n) (z + 1)).2.2 T i = A.2.2 T i := fun T i hT hT2 => (alA_ln (by omega)).trans (alA_ln (by omega))
          have ln2 : ∀ T i, i ≠ 4 * r + n → (alA (alA A 16 (4 * r + n) z) 17 (4 * r + n) (z + 1)).2.2 T i = A.2.2 T i := fun T i hT => (alA_ln (by omega)).trans (alA_ln (by omega))
          have hnew : ∀ {α : Type} (K : Nat → hpT → Rs α), newO (z, hv A iv rv ov) 6 [.int 0, .null, .int 0] K = K ((alA A 16 (4 * r + n) z).1 16 (4 * r + n)) (z + 1, hv (alA A 16 (4 * r + n) z) (z3 iv 16 (4 * r + n) 0) (z3 rv 16 (4 * r + n) none) ov) := fun K => (newO_hv hO hd16 (by rfl) (by decide) (by rfl)).1
          have hnew2 : ∀ {α : Type} (K : Nat → hpT → Rs α), newI (z + 1, hv (alA A 16 (4 * r + n) z) (z3 iv 16 (4 * r + n) 0) (z3 rv 16 (4 * r + n) none) ov) 24 K = K ((alA (alA A 16 (4 * r + n) z) 17 (4 * r + n) (z + 1)).1 17 (4 * r + n)) (z + 1 + 1, hv (alA (alA A 16 (4 * r + n) z) 17 (4 * r + n) (z + 1)) (z3 (z3 iv 16 (4 * r + n) 0) 17 (4 * r + n) 0) (z3 (z3 rv 16 (4 * r + n) none) 17 (4 * r + n) none) ov) := fun K => (newI_hv hO1 hd17' (by rfl) (by rfl)).1
          rw [← a16] at hnew
          generalize alA (alA A 16 (4 * r + n) z) 17 (4 * r + n) (z + 1) = A2 at hO2 a13 a12 a0 a20 a18 a16 l17 l16 lm ln ln2 hnew hnew2
          have hI2 := hO2.1
          have hF2 : RFA A2 (u3 (u3 (z3 (z3 rv 16 (4 * r + n) none) 17 (4 * r + n) none) 16 (4 * r + n) 1 (some (17, 4 * r + n))) 13 r n (some (16, 4 * r + n))) := by
            have f1 : RFA A2 (z3 (z3 rv 16 (4 * r + n) none) 17 (4 * r + n) none) := hO2.2.2
            exact (f1.ref l17).ref l16
          have hM2 : MD A2 (u3 (u3 (z3 (z3 rv 16 (4 * r + n) none) 17 (4 * r + n) none) 16 (4 * r + n) 1 (some (17, 4 * r + n))) 13 r n (some (16, 4 * r + n))) := hM.to hI2 lm (fun j => by simp [u3, z3])
          refine fin_ok (x := nI n) (A := A2) (iv1 := u3 (u3 (u3 (z3 (z3 iv 16 (4 * r + n) 0) 17 (4 * r + n) 0) 16 (4 * r + n) 2 (nI d)) 16 (4 * r + n) 0 (nI hh)) 12 r 2 (nI (n + 1)))
              (iv2 := u3 (u3 (u3 (u3 (u3 (u3 (u3 (z3 (z3 iv 16 (4 * r + n) 0) 17 (4 * r + n) 0) 16 (4 * r + n) 2 (nI d)) 16 (4 * r + n) 0 (nI hh)) 12 r 2 (nI (n + 1))) 20 0 0 0) 33 0 (4 * r + n) (nI d)) 34 0 (4 * r + n) (nI hh)) 32 0 r (nI (n + 1)))
              (rv := u3 (u3 (z3 (z3 rv 16 (4 * r + n) none) 17 (4 * r + n) none) 16 (4 * r + n) 1 (some (17, 4 * r + n))) 13 r n (some (16, 4 * r + n))) (ov := ov) (z := z + 1 + 1) (np := np) (nr := nr) (nl := nl) ?_ (fun z1 ov' => ?_) ?_ hF2 a0 a20 a18 ?_
          · unfold F_X7_wall
            rw [isO_hv hA t0 (by rfl) (by decide), roomAt_in h hr, bnd_v, req_in hv2, bnd_v, req_in hv3, bnd_v, isO_hv hA g1 (by rfl) (by decide), cHung_n hA g1 b1, bnd_v, if_pos rfl, isO_hv hA g1 (by rfl) (by decide)]
            unfold F_X5_addWall
            rw [gfI_hv hA g1 (by rfl) (by decide) (by rfl), g9, if_neg (nI_pos (by omega)), gfR_hv hA g1 (by rfl) (by decide) (by rfl), g5, rfv_s, nn_s, alen_R (k := 4) hA g2 (by rfl) (by decide), show kn 13 = 4 from rfl, if_pos (nI_lt hn (by decide)), gfR_hv hA g1 (by rfl) (by decide) (by rfl), g5, rfv_s, hnew]
            unfold F_X6_init
            rw [hnew2, pfR_hv hI2 l16 (by rfl) (by decide) (by rfl), pf_hv hI2 l16 (by rfl) (by decide) (by rfl), pf_hv hI2 l16 (by rfl) (by decide) (by rfl), bnd_v, nn_s, ← a13, astR_hv (q := 4) hI2 (lm _ _ g2) (by rfl) (show n < 4 from hn) l16 (by rfl) (by decide), ← a12, pf_hv hI2 (lm _ _ g1) (by rfl) (by decide) (by rfl), bnd_v, if_neg (nI_m1 (by omega)), nI_1]
          · have e32 : u3 (u3 (u3 (z3 (z3 iv 16 (4 * r + n) 0) 17 (4 * r + n) 0) 16 (4 * r + n) 2 (nI d)) 16 (4 * r + n) 0 (nI hh)) 12 r 2 (nI (n + 1)) 32 0 r = nI n := by
              simp [u3, z3]
              exact g10
            have e35 : u3 (u3 (u3 (z3 (z3 iv 16 (4 * r + n) 0) 17 (4 * r + n) 0) 16 (4 * r + n) 2 (nI d)) 16 (4 * r + n) 0 (nI hh)) 12 r 2 (nI (n + 1)) 35 0 r = -1 := by
              simp [u3, z3]
              exact b2
            generalize u3 (u3 (u3 (z3 (z3 iv 16 (4 * r + n) 0) 17 (4 * r + n) 0) 16 (4 * r + n) 2 (nI d)) 16 (4 * r + n) 0 (nI hh)) 12 r 2 (nI (n + 1)) = iv1 at e32 e35 ⊢
            rw [min_ _ _ _ _ _ hrg']
            unfold F_X8_wall_b25
            rw [isRoom_in hr, bnd_v, if_neg (by decide), if_neg (by decide), ← a20, mO hM2, mHung_n hM2 hr e35, bnd_v, if_pos rfl, mR15 hM2, nn_s, mA15 hM2 hr, e32, if_neg (show ¬ nI n = 4 from fun q => by have := nI_inj (b := 4) (by omega) (by omega) q; omega), mwall_spec hM2 hr e32 hn]
          · simp [u3]
          · have e : ∀ T i j, T ≠ 12 ∧ T ≠ 16 ∧ T ≠ 17 ∧ T ≠ 20 ∧ T ≠ 32 ∧ T ≠ 33 ∧ T ≠ 34 → (u3 (u3 (u3 (u3 (u3 (u3 (u3 (z3 (z3 iv 16 (4 * r + n) 0) 17 (4 * r + n) 0) 16 (4 * r + n) 2 (nI d)) 16 (4 * r + n) 0 (nI hh)) 12 r 2 (nI (n + 1))) 20 0 0 0) 33 0 (4 * r + n) (nI d)) 34 0 (4 * r + n) (nI hh)) 32 0 r (nI (n + 1))) T i j = iv T i j := by
              rintro T i j ⟨x1, x2, x3, x4, x5, x6, x7⟩
              simp [u3, z3, x1, x2, x3, x4, x5, x6, x7]
            have e20 : ∀ j, j ≠ 0 → (u3 (u3 (u3 (u3 (u3 (u3 (u3 (z3 (z3 iv 16 (4 * r + n) 0) 17 (4 * r + n) 0) 16 (4 * r + n) 2 (nI d)) 16 (4 * r + n) 0 (nI hh)) 12 r 2 (nI (n + 1))) 20 0 0 0) 33 0 (4 * r + n) (nI d)) 34 0 (4 * r + n) (nI hh)) 32 0 r (nI (n + 1))) 20 0 j = iv 20 0 j := by
              intro j hj
              simp [u3, z3, hj]
            have e12 : ∀ i j, i ≠ r ∨ j ≠ 2 → (u3 (u3 (u3 (u3 (u3 (u3 (u3 (z3 (z3 iv 16 (4 * r + n) 0) 17 (4 * r + n) 0) 16 (4 * r + n) 2 (nI d)) 16 (4 * r + n) 0 (nI hh)) 12 r 2 (nI (n + 1))) 20 0 0 0) 33 0 (4 * r + n) (nI d)) 34 0 (4 * r + n) (nI hh)) 32 0 r (nI (n + 1))) 12 i j = iv 12 i j := by
              intro i j hi
              simp only [u3, z3]
              repeat rw [if_neg (by omega)]
            have e122 : (u3 (u3 (u3 (u3 (u3 (u3 (u3 (z3 (z3 iv 16 (4 * r + n) 0) 17 (4 * r + n) 0) 16 (4 * r + n) 2 (nI d)) 16 (4 * r + n) 0 (nI hh)) 12 r 2 (nI (n + 1))) 20 0 0 0) 33 0 (4 * r + n) (nI d)) 34 0 (4 * r + n) (nI hh)) 32 0 r (nI (n + 1))) 12 r 2 = nI (n + 1) := by simp [u3, z3]
            have e16 : ∀ i j, i ≠ 4 * r + n → (u3 (u3 (u3 (u3 (u3 (u3 (u3 (z3 (z3 iv 16 (4 * r + n) 0) 17 (4 * r + n) 0) 16 (4 * r + n) 2 (nI d)) 16 (4 * r + n) 0 (nI hh)) 12 r 2 (nI (n + 1))) 20 0 0 0) 33 0 (4 * r + n) (nI d)) 34 0 (4 * r + n) (nI hh)) 32 0 r (nI (n + 1))) 16 i j = iv 16 i j ∧ (u3 (u3 (u3 (u3 (u3 (u3 (u3 (z3 (z3 iv 16 (4 * r + n) 0) 17 (4 * r + n) 0) 16 (4 * r + n) 2 (nI d)) 16 (4 * r + n) 0 (nI hh)) 12 r 2 (nI (n + 1))) 20 0 0 0) 33 0 (4 * r + n) (nI d)) 34 0 (4 * r + n) (nI hh)) 32 0 r (nI (n + 1))) 17 i j = iv 17 i j := by
              intro i j hi
              simp [u3, z3, hi]
            have e162 : (u3 (u3 (u3 (u3 (u3 (u3 (u3 (z3 (z3 iv 16 (4 * r + n) 0) 17 (4 * r + n) 0) 16 (4 * r + n) 2 (nI d)) 16 (4 * r + n) 0 (nI hh)) 12 r 2 (nI (n + 1))) 20 0 0 0) 33 0 (4 * r + n) (nI d)) 34 0 (4 * r + n) (nI hh)) 32 0 r (nI (n + 1))) 16 (4 * r + n) 2 = nI d := by simp [u3, z3]
            have e160 : (u3 (u3 (u3 (u3 (u3 (u3 (u3 (z3 (z3 iv 16 (4 * r + n) 0) 17 (4 * r + n) 0) 16 (4 * r + n) 2 (nI d)) 16 (4 * r + n) 0 (nI hh)) 12 r 2 (nI (n + 1))) 20 0 0 0) 33 0 (4 * r + n) (nI d)) 34 0 (4 * r + n) (nI hh)) 32 0 r (nI (n + 1))) 16 (4 * r + n) 0 = nI hh := by simp [u3, z3]
            have e32 : ∀ i, i ≠ r → (u3 (u3 (u3 (u3 (u3 (u3 (u3 (z3 (z3 iv 16 (4 * r + n) 0) 17 (4 * r + n) 0) 16 (4 * r + n) 2 (nI d)) 16 (4 * r + n) 0 (nI hh)) 12 r 2 (nI (n + 1))) 20 0 0 0) 33 0 (4 * r + n) (nI d)) 34 0 (4 * r + n) (nI hh)) 32 0 r (nI (n + 1))) 32 0 i = iv 32 0 i := by
              intro i hi
              simp [u3, z3, hi]
            have e32n : (u3 (u3 (u3 (u3 (u3 (u3 (u3 (z3 (z3 iv 16 (4 * r + n) 0) 17 (4 * r + n) 0) 16 (4 * r + n) 2 (nI d)) 16 (4 * r + n) 0 (nI hh)) 12 r 2 (nI (n + 1))) 20 0 0 0) 33 0 (4 * r + n) (nI d)) 34 0 (4 * r + n) (nI hh)) 32 0 r (nI (n + 1))) 32 0 r = nI (n + 1) := by simp [u3, z3]
            have e33 : ∀ i, i ≠ 4 * r + n → (u3 (u3 (u3 (u3 (u3 (u3 (u3 (z3 (z3 iv 16 (4 * r + n) 0) 17 (4 * r + n) 0) 16 (4 * r + n) 2 (nI d)) 16 (4 * r + n) 0 (nI hh)) 12 r 2 (nI (n + 1))) 20 0 0 0) 33 0 (4 * r + n) (nI d)) 34 0 (4 * r + n) (nI hh)) 32 0 r (nI (n + 1))) 33 0 i = iv 33 0 i ∧ (u3 (u3 (u3 (u3 (u3 (u3 (u3 (z3 (z3 iv 16 (4 * r + n) 0) 17 (4 * r + n) 0) 16 (4 * r + n) 2 (nI d)) 16 (4 * r + n) 0 (nI hh)) 12 r 2 (nI (n + 1))) 20 0 0 0) 33 0 (4 * r + n) (nI d)) 34 0 (4 * r + n) (nI hh)) 32 0 r (nI (n + 1))) 34 0 i = iv 34 0 i := by
              intro i hi
              simp [u3, z3, hi]
            have e33n : (u3 (u3 (u3 (u3 (u3 (u3 (u3 (z3 (z3 iv 16 (4 * r + n) 0) 17 (4 * r + n) 0) 16 (4 * r + n) 2 (nI d)) 16 (4 * r + n) 0 (nI hh)) 12 r 2 (nI (n + 1))) 20 0 0 0) 33 0 (4 * r + n) (nI d)) 34 0 (4 * r + n) (nI hh)) 32 0 r (nI (n + 1))) 33 0 (4 * r + n) = nI d ∧ (u3 (u3 (u3 (u3 (u3 (u3 (u3 (z3 (z3 iv 16 (4 * r + n) 0) 17 (4 * r + n) 0) 16 (4 * r + n) 2 (nI d)) 16 (4 * r + n) 0 (nI hh)) 12 r 2 (nI (n + 1))) 20 0 0 0) 33 0 (4 * r + n) (nI d)) 34 0 (4 * r + n) (nI hh)) 32 0 r (nI (n + 1))) 34 0 (4 * r + n) = nI hh := by simp [u3, z3]
            have er : ∀ T i j, T ≠ 16 → T ≠ 17 → T ≠ 13 → (u3 (u3 (z3 (z3 rv 16 (4 * r + n) none) 17 (4 * r + n) none) 16 (4 * r + n) 1 (some (17, 4 * r + n))) 13 r n (some (16, 4 * r + n))) T i j = rv T i j := by
              intro T i j x1 x2 x3
              simp [u3, z3, x1, x2, x3]
            have er16 : ∀ i j, i ≠ 4 * r + n → (u3 (u3 (z3 (z3 rv 16 (4 * r + n) none) 17 (4 * r + n) none) 16 (4 * r + n) 1 (some (17, 4 * r + n))) 13 r n (some (16, 4 * r + n))) 16 i j = rv 16 i j := by
              intro i j hi
              simp [u3, z3, hi]
            have er16n : (u3 (u3 (z3 (z3 rv 16 (4 * r + n) none) 17 (4 * r + n) none) 16 (4 * r + n) 1 (some (17, 4 * r + n))) 13 r n (some (16, 4 * r + n))) 16 (4 * r + n) 1 = some (17, 4 * r + n) := by simp [u3, z3]
            have er13 : ∀ i j, i ≠ r ∨ j ≠ n → (u3 (u3 (z3 (z3 rv 16 (4 * r + n) none) 17 (4 * r + n) none) 16 (4 * r + n) 1 (some (17, 4 * r + n))) 13 r n (some (16, 4 * r + n))) 13 i j = rv 13 i j := by
              intro i j hi
              simp only [u3, z3]
              repeat rw [if_neg (by omega)]
            have er13n : (u3 (u3 (z3 (z3 rv 16 (4 * r + n) none) 17 (4 * r + n) none) 16 (4 * r + n) 1 (some (17, 4 * r + n))) 13 r n (some (16, 4 * r + n))) 13 r n = some (16, 4 * r + n) := by simp [u3, z3]
            generalize (u3 (u3 (u3 (u3 (u3 (u3 (u3 (z3 (z3 iv 16 (4 * r + n) 0) 17 (4 * r + n) 0) 16 (4 * r + n) 2 (nI d)) 16 (4 * r + n) 0 (nI hh)) 12 r 2 (nI (n + 1))) 20 0 0 0) 33 0 (4 * r + n) (nI d)) 34 0 (4 * r + n) (nI hh)) 32 0 r (nI (n + 1))) = iv2 at e e20 e12 e122 e16 e162 e160 e32 e32n e33 e33n ⊢
            generalize (u3 (u3 (z3 (z3 rv 16 (4 * r + n) none) 17 (4 * r + n) none) 16 (4 * r + n) 1 (some (17, 4 * r + n))) 13 r n (some (16, 4 * r + n))) = rv2 at hF2 hM2 er er16 er16n er13 er13n ⊢
            obtain ⟨f1, f2, f3, f4, f5, f6, f7⟩ := h
            refine ⟨hM2, ⟨⟨lm _ _ t0, lm _ _ t1, lm _ _ t2, lm _ _ t3, lm _ _ t4⟩, ⟨(er _ _ _ (by decide) (by decide) (by decide)).trans w0, (er _ _ _ (by decide) (by decide) (by decide)).trans w1, (er _ _ _ (by decide) (by decide) (by decide)).trans w2, (er _ _ _ (by decide) (by decide) (by decide)).trans w3⟩, fun i hi => (er _ _ _ (by decide) (by decide) (by decide)).trans (w4 i hi), fun i hi => (er _ _ _ (by decide) (by decide) (by decide)).trans (w5 i hi), fun i hi => (er _ _ _ (by decide) (by decide) (by decide)).trans (w6 i hi), fun i hi => (er _ _ _ (by decide) (by decide) (by decide)).trans (w7 i hi), fun i hi => ?_, fun i hi => ?_, fun i hi => (ln _ _ (by decide) (by decide)).trans (d3 i hi), lm _ _ t18, fun i hi => o18 i (by rw [← ln 18 i (by decide) (by decide)]; exact hi)⟩, f3.to (fun j => e _ _ _ (by decide)) (e20 _ (by decide)) (e20 _ (by decide)) (e20 _ (by decide)) (e20 _ (by decide)) (fun k _ => e _ _ _ (by decide)), fun i hi => (f4 i hi).to lm (er _ _ _ (by decide) (by decide) (by decide)) (er _ _ _ (by decide) (by decide) (by decide)) ?_ ?_ ?_ ?_ ?_ ?_ ?_, fun i hi => (f5 i hi).to (Nat.le_refl _) lm (er _ _ _ (by decide) (by decide) (by decide)) (er _ _ _ (by decide) (by decide) (by decide)) ?_ ?_ ?_ ?_ ?_ ?_ ?_ ?_ ?_ ?_, fun i hi => (f6 i hi).to (Nat.le_refl _) lm (er _ _ _ (by decide) (by decide) (by decide)) ?_ ?_ ?_ ?_ ?_, fun r' hr' => ?_⟩
            · obtain ⟨y1, y2, y3⟩ := d1 i hi
              exact ⟨(ln _ _ (by decide) (by decide)).trans y1, (ln _ _ (by decide) (by decide)).trans y2, (ln _ _ (by decide) (by decide)).trans y3⟩
            · obtain ⟨y1, y2, y3⟩ := d2 i hi
              exact ⟨(ln _ _ (by decide) (by decide)).trans y1, (ln _ _ (by decide) (by decide)).trans y2, (ln _ _ (by decide) (by decide)).trans y3⟩
            rotate_left 22
            · by_cases hrr : r' = r
              · subst hrr
                refine ⟨lm _ _ g1, lm _ _ g2, lm _ _ g3, lm _ _ g4, (er _ _ _ (by decide) (by decide) (by decide)).trans g5, (er _ _ _ (by decide) (by decide) (by decide)).trans g6, (er _ _ _ (by decide) (by decide) (by decide)).trans g7, n + 1, hn, e122, e32n, fun w hw => ?_, fun w hw1 hw2 => ⟨(ln2 _ _ (by omega)).trans (g12 w (by omega) hw2).1, (ln2 _ _ (by omega)).trans (g12 w (by omega) hw2).2⟩, fun w hw => ?_, Or.inl ⟨(er _ _ _ (by decide) (by decide) (by decide)).trans b1, (e _ _ _ (by decide)).trans b2⟩⟩
                · by_cases hwn : w = n
                  · subst hwn
                    rw [er13n, if_pos (by omega)]
                  · rw [er13 _ _ (Or.inr hwn), g11 w hw]
                    by_cases hi2 : w < n
                    · rw [if_pos hi2, if_pos (by omega)]
                    · rw [if_neg hi2, if_neg (by omega)]
                · by_cases hwn : w = n
                  · subst hwn
                    exact ⟨d, hh, by omega, l16, l17, er16n, e162, e33n.1, hd1, by omega, e160, e33n.2, hh1, hh2⟩
                  · exact (g13 w (by omega)).to lm (er16 _ _ (by omega)) (fun j => (e16 _ j (by omega)).1) (e33 _ (by omega)).1 (e33 _ (by omega)).2
              · refine (f7 r' hr').to (Nat.le_refl _) lm (fun w hw q => ⟨(ln2 _ _ (by omega)).trans q.1, (ln2 _ _ (by omega)).trans q.2⟩) (fun _ => er _ _ _ (by decide) (by decide) (by decide)) (er _ _ _ (by decide) (by decide) (by decide)) (fun _ _ => er13 _ _ (Or.inl hrr)) (fun w hw => er16 _ _ (by omega)) (fun _ _ => er _ _ _ (by decide) (by decide) (by decide)) (fun j => e12 _ _ (Or.inl hrr)) ?_ ?_ (fun w j hw => (e16 _ j (by omega)).1) (fun w j hw => (e16 _ j (by omega)).2) (e32 _ hrr) (fun w hw => (e33 _ (by omega)).1) (fun w hw => (e33 _ (by omega)).2) ?_ ?_ ?_ ?_ ?_ ?_ ?_ (fun l k _ hk => ⟨k, Nat.le_refl _, (e _ _ _ (by decide)).trans hk⟩) ?_ <;> intros <;> exact e _ _ _ (by decide)
            all_goals intros
            all_goals exact e _ _ _ (by decide)
        · refine op_ref (z := z) (ov := ov) (k := 3) (b := 0) h hF ?_ (fun _ => wc3 (by decide) (by decide)) (by decide) (fun z1 => ?_)
          · unfold F_X7_wall
            rw [isO_hv hA t0 (by rfl) (by decide), roomAt_in h hr, bnd_v, req_in hv2, bnd_v, req_in hv3, bnd_v, isO_hv hA g1 (by rfl) (by decide), cHung_n hA g1 b1, bnd_v, if_pos rfl, isO_hv hA g1 (by rfl) (by decide)]
            unfold F_X5_addWall
            rw [gfI_hv hA g1 (by rfl) (by decide) (by rfl), g9, if_neg (nI_pos (by omega)), gfR_hv hA g1 (by rfl) (by decide) (by rfl), g5, rfv_s, nn_s, alen_R (k := 4) hA g2 (by rfl) (by decide), show kn 13 = 4 from rfl, if_neg (nI_nlt (by omega) (by omega)), bnd_v, if_pos rfl]
          · rw [min_ _ _ _ _ _ hrg']
            unfold F_X8_wall_b25 F_X8_wall_b66
            rw [isRoom_in hr, bnd_v, if_neg (by decide), if_neg (by decide), mO hM, mHung_n hM hr b2, bnd_v, if_pos rfl, mR15 hM, nn_s, mA15 hM hr, g10, if_pos (show nI n = 4 by rw [show n = 4 by omega]; rfl)]
            exact mbad z1 3 (by omega)
      · refine op_ref (z := z) (ov := ov) (k := 3) (b := 0) h hF ?_ (fun _ => wc3 (by decide) (by decide)) (by decide) (fun z1 => ?_)
        · unfold F_X7_wall
          rw [isO_hv hA t0 (by rfl) (by decide), roomAt_in h hr, bnd_v, req_in hv2, bnd_v, req_in hv3, bnd_v, isO_hv hA g1 (by rfl) (by decide), cHung_s hA g1 b2, bnd_v, if_neg (by decide)]
        · have l10 : l < 10 := by
            obtain ⟨lq, lk, lL, p1, p2, -⟩ := h.2.2.2.2.2.1 l b1
            exact p2
          rw [min_ _ _ _ _ _ hrg']
          unfold F_X8_wall_b25 F_X8_wall_b66
          rw [isRoom_in hr, bnd_v, if_neg (by decide), if_neg (by decide), mO hM, mHung_s hM hr l10 q2, bnd_v, if_neg (by decide)]
          exact mbad z1 3 (by omega)
    · refine op_ref (z := z) (ov := ov) (k := 2) (b := 0) h hF ?_ (fun _ => wc2 (by decide)) (by decide) (fun z1 => ?_)
      · unfold F_X7_wall
        rw [isO_hv hA t0 (by rfl) (by decide), roomAt_in h hr, bnd_v]
        by_cases q2 : inR v2 1 12
        · rw [req_in q2, bnd_v]
          by_cases q3 : inR v3 1 60
          · exact absurd ⟨q2, q3⟩ hrg
          · rw [req_out q3, bnd_t]
        · rw [req_out q2, bnd_t]
      · rw [mout z1 hrg]
        unfold F_X8_wall_b24 F_X8_wall_b25
        rw [isRoom_in hr, bnd_v, if_neg (by decide), if_pos rfl]
        exact mbad z1 2 (by omega)
  · refine op_ref (z := z) (ov := ov) (k := 1) (b := 0) h hF ?_ (fun _ => wc1) (by decide) (fun z1 => ?_)
    · unfold F_X7_wall
      rw [isO_hv hA t0 (by rfl) (by decide), roomAt_out h hx, bnd_t]
    · by_cases hrg : inR v2 1 12 ∧ inR v3 1 60
      · rw [min_ _ _ _ _ _ hrg]
        unfold F_X8_wall_b25
        rw [isRoom_out hx, bnd_v, if_pos rfl]
        exact mbad z1 1 (by omega)
      · rw [mout z1 hrg]
        unfold F_X8_wall_b24 F_X8_wall_b25
        rw [isRoom_out hx, bnd_v, if_pos rfl]
        exact mbad z1 1 (by omega)
end WA
