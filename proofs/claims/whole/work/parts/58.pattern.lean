/-! pattern -/
section PN
variable {A : Adr} {iv : IVt} {rv : RVt} {ov : Nat → Int64} {z np nr nl : Nat}
theorem tail_spec {i w h s : Nat} (hA : IN A) (hl : A.2.2 5 i = true) (hs : s ≤ 5) : (if nI s = 0 then F_X3_init_b31 (A.1 5 i) (nI w) (nI h) (nI s) (z, hv A iv rv ov) else (if nI s = 1 then F_X3_init_b31 (A.1 5 i) (nI w) (nI h) (nI s) (z, hv A iv rv ov) else F_X3_init_b36 (A.1 5 i) (nI w) (nI h) (nI s) 0 (z, hv A iv rv ov))) = rtv () (z, hv A (u3 (u3 iv 5 i 2 (nI (rcM w s))) 5 i 3 (nI (rrM h s))) rv ov) := by
  rcases (show s = 0 ∨ s = 1 ∨ s = 2 ∨ s = 3 ∨ s = 4 ∨ s = 5 by omega) with rfl | rfl | rfl | rfl | rfl | rfl
  · rw [if_pos (by decide)]
    unfold F_X3_init_b31 F_X3_init_b36
    rw [if_pos (by decide)]
    unfold F_X3_init_b52 F_X3_init_b57
    rw [if_neg (by decide)]
    unfold F_X3_init_b72
    rw [pf_hv hA hl (by rfl) (by decide) (by rfl), if_neg (by decide), pf_hv hA hl (by rfl) (by decide) (by rfl)]
    rfl
  · rw [if_neg (by decide), if_pos (by decide)]
    unfold F_X3_init_b31 F_X3_init_b36
    rw [if_neg (by decide), if_neg (by decide), if_neg (by decide)]
    unfold F_X3_init_b57
    rw [if_neg (by decide)]
    unfold F_X3_init_b72
    rw [pf_hv hA hl (by rfl) (by decide) (by rfl), if_pos (by decide), pf_hv hA hl (by rfl) (by decide) (by rfl), show (2 : Int32) = nI 2 from rfl, pk_mul]
    rfl
  · rw [if_neg (by decide), if_neg (by decide)]
    unfold F_X3_init_b36
    rw [if_neg (by decide), if_pos (by decide)]
    unfold F_X3_init_b52 F_X3_init_b57
    rw [if_pos (by decide)]
    unfold F_X3_init_b72
    rw [pf_hv hA hl (by rfl) (by decide) (by rfl), if_neg (by decide), pf_hv hA hl (by rfl) (by decide) (by rfl), show (2 : Int32) = nI 2 from rfl, pk_mul]
    rfl
  · rw [if_neg (by decide), if_neg (by decide)]
    unfold F_X3_init_b36
    rw [if_neg (by decide), if_neg (by decide), if_pos (by decide)]
    unfold F_X3_init_b52 F_X3_init_b57
    rw [if_pos (by decide)]
    unfold F_X3_init_b72
    rw [pf_hv hA hl (by rfl) (by decide) (by rfl), if_neg (by decide), pf_hv hA hl (by rfl) (by decide) (by rfl), show (2 : Int32) = nI 2 from rfl, pk_mul]
    rfl
  · rw [if_neg (by decide), if_neg (by decide)]
    unfold F_X3_init_b36
    rw [if_neg (by decide), if_neg (by decide), if_neg (by decide)]
    unfold F_X3_init_b57
    rw [if_pos (by decide)]
    unfold F_X3_init_b72
    rw [pf_hv hA hl (by rfl) (by decide) (by rfl), if_pos (by decide), pf_hv hA hl (by rfl) (by decide) (by rfl), show (2 : Int32) = nI 2 from rfl, pk_mul, pk_mul]
    rfl
  · rw [if_neg (by decide), if_neg (by decide)]
    unfold F_X3_init_b36
    rw [if_neg (by decide), if_neg (by decide), if_neg (by decide)]
    unfold F_X3_init_b57
    rw [if_pos (by decide)]
    unfold F_X3_init_b72
    rw [pf_hv hA hl (by rfl) (by decide) (by rfl), if_pos (by decide), pf_hv hA hl (by rfl) (by decide) (by rfl), show (2 : Int32) = nI 2 from rfl, pk_mul, pk_mul]
    rfl
theorem mpattern_spec {v1 v2 v3 : Int32} (hM : MD A rv) (h1 : iv 20 0 1 = nI np) (hn : np < 6) : F_X8_pattern_b68 (A.1 20 0) v1 v2 v3 0 (A.1 20 0) (z, hv A iv rv ov) = rtv (nI np) (z, hv A (u3 (u3 (u3 (u3 (u3 iv 20 0 0 0) 21 0 np v1) 22 0 np v2) 23 0 np v3) 20 0 1 (nI (np + 1))) rv ov) := by
  unfold F_X8_pattern_b68
  rw [mO hM, ref0 hM, bnd_v, if_pos rfl, mR2 hM, mI1 hM, u3_n (by omega), h1, nn_s, mS2 hM hn, mR3 hM, mI1 hM, u3_T (by decide), u3_n (by omega), h1, nn_s, mS3 hM hn, mR4 hM, mI1 hM, u3_T (by decide), u3_T (by decide), u3_n (by omega), h1, nn_s, mS4 hM hn, mI1 hM, u3_T (by decide), u3_T (by decide), u3_T (by decide), u3_n (by omega), h1, mP1 hM, nI_1, mI1 hM, u3_s, nI_pred]
theorem sc0 {v1 v2 v3 : Int32} (h : INV A iv rv np nr nl) (hF : RFA A rv) (hz : ∀ a e, hv A iv rv ov a = some e → a < z) : OP A cs_L_pattern (F_X7_pattern (A.1 0 0) v1 v2 v3 (z, hv A iv rv ov)) (F_X8_pattern (A.1 20 0) v1 v2 v3) := by
  have hM := h.1
  have hA := hM.1
  obtain ⟨⟨t0, t1, t2, t3, t4⟩, ⟨w0, w1, w2, w3⟩, w4, w5, w6, w7, d1, d2, d3, t18, o18⟩ := id h.2.1
  obtain ⟨n1, n2, n3, n4, n5, n6, n7, n8, n9, n10, n11⟩ := id h.2.2.1
  have mbad : ∀ (z1 : Nat) (k : Nat), k = 1 ∨ k = 2 → F_X8_pattern_b68 (A.1 20 0) v1 v2 v3 (nI k) (A.1 20 0) (z1, hv A iv rv ov) = rtv 0 (z1, hv A (u3 iv 20 0 0 (nI k)) rv ov) := by
    intro z1 k hk
    unfold F_X8_pattern_b68
    rw [mO hM, refused_spec hM (by omega), bnd_v]
    rcases hk with rfl | rfl <;> rfl
  by_cases hrg : (inR v1 1 5 ∧ inR v2 1 5 ∧ inR v3 0 5) ∧ (v3 = 5 → v1 = v2)
  · obtain ⟨⟨hv1, hv2, hv3⟩, hsq⟩ := hrg
    have cHead : F_X7_pattern (A.1 0 0) v1 v2 v3 (z, hv A iv rv ov) = F_X7_pattern_b38 (A.1 0 0) v1 v2 v3 (z, hv A iv rv ov) := by
      unfold F_X7_pattern
      rw [req_in hv1, bnd_v, req_in hv2, bnd_v, req_in hv3, bnd_v]
      by_cases q : v3 = 5
      · rw [if_pos q, if_pos (hsq q)]
      · rw [if_neg q]
    have mHead : ∀ hp, F_X8_pattern (A.1 20 0) v1 v2 v3 hp = F_X8_pattern_b42 (A.1 20 0) v1 v2 v3 1 hp := by
      intro hp
      unfold F_X8_pattern F_X8_pattern_b37
      rw [is_in hv1, bnd_v, if_neg (by decide), is_in hv2, bnd_v, if_neg (by decide), is_in hv3, bnd_v, if_neg (by decide)]
      by_cases q : v3 = 5
      · rw [if_pos q, if_pos (hsq q)]
      · rw [if_neg q]
    obtain ⟨w, rfl, hw1, hw2⟩ := rg_of (a := 1) (b := 5) (by decide) (by decide) hv1
    obtain ⟨hh, rfl, hh1, hh2⟩ := rg_of (a := 1) (b := 5) (by decide) (by decide) hv2
    obtain ⟨s, rfl, -, hs5⟩ := rg_of (a := 0) (b := 5) (by decide) (by decide) hv3
    have hsq' : s = 5 → w = hh := fun q => nI_inj (by omega) (by omega) (hsq (by rw [q]; rfl))
    by_cases hn : np < 6
    · have hO := oka_of hA hF hz
      obtain ⟨hd5, hd6, hd7⟩ := d1 np (Nat.le_refl _)
      have hO1 := hO.al hd5
      have hd6' : (alA A 5 np z).2.2 6 np = false := (alA_ln (by omega)).trans hd6
      have hO2 := hO1.al hd6'
      have hd7' : (alA (alA A 5 np z) 6 np (z + 1)).2.2 7 np = false := (alA_ln (by omega)).trans ((alA_ln (by omega)).trans hd7)
      have hO3 := hO2.al hd7'
      have a_ : ∀ T i, T ≠ 5 → T ≠ 6 → T ≠ 7 → (alA (alA (alA A 5 np z) 6 np (z + 1)) 7 np (z + 1 + 1)).1 T i = A.1 T i := fun T i x y q => (alA_n (by omega)).trans ((alA_n (by omega)).trans (alA_n (by omega)))
      have a5 : (alA (alA (alA A 5 np z) 6 np (z + 1)) 7 np (z + 1 + 1)).1 5 np = (alA A 5 np z).1 5 np := (alA_n (by omega)).trans (alA_n (by omega))
      have a6 : (alA (alA (alA A 5 np z) 6 np (z + 1)) 7 np (z + 1 + 1)).1 6 np = (alA (alA A 5 np z) 6 np (z + 1)).1 6 np := alA_n (by omega)
      have l7 : (alA (alA (alA A 5 np z) 6 np (z + 1)) 7 np (z + 1 + 1)).2.2 7 np = true := alA_l
      have l6 : (alA (alA (alA A 5 np z) 6 np (z + 1)) 7 np (z + 1 + 1)).2.2 6 np = true := alA_lt alA_l
      have l5 : (alA (alA (alA A 5 np z) 6 np (z + 1)) 7 np (z + 1 + 1)).2.2 5 np = true := alA_lt (alA_lt alA_l)
      have lm : ∀ T i, A.2.2 T i = true → (alA (alA (alA A 5 np z) 6 np (z + 1)) 7 np (z + 1 + 1)).2.2 T i = true := fun T i hl => alA_lt (alA_lt (alA_lt hl))
      have ln : ∀ T i, (T ≠ 5 ∧ T ≠ 6 ∧ T ≠ 7) ∨ i ≠ np → (alA (alA (alA A 5 np z) 6 np (z + 1)) 7 np (z + 1 + 1)).2.2 T i = A.2.2 T i := fun T i hT => (alA_ln (by omega)).trans ((alA_ln (by omega)).trans (alA_ln (by omega)))
      have hnew1 : ∀ {α : Type} (K : Nat → hpT → Rs α), newO (z, hv A iv rv ov) 3 [.null, .int 0, .int 0, .int 0] K = K ((alA A 5 np z).1 5 np) (z + 1, hv (alA A 5 np z) (z3 iv 5 np 0) (z3 rv 5 np none) ov) := fun K => (newO_hv hO hd5 (by rfl) (by decide) (by rfl)).1
      have hnew2 : ∀ {α : Type} (K : Nat → hpT → Rs α), newO (z + 1, hv (alA A 5 np z) (z3 iv 5 np 0) (z3 rv 5 np none) ov) 0 [.int 0, .int 0, .null] K = K ((alA (alA A 5 np z) 6 np (z + 1)).1 6 np) (z + 1 + 1, hv (alA (alA A 5 np z) 6 np (z + 1)) (z3 (z3 iv 5 np 0) 6 np 0) (z3 (z3 rv 5 np none) 6 np none) ov) := fun K => (newO_hv hO1 hd6' (by rfl) (by decide) (by rfl)).1
      have hnew3 : ∀ {α : Type} (K : Nat → hpT → Rs α), newI (z + 1 + 1, hv (alA (alA A 5 np z) 6 np (z + 1)) (z3 (z3 iv 5 np 0) 6 np 0) (z3 (z3 rv 5 np none) 6 np none) ov) 100 K = K ((alA (alA (alA A 5 np z) 6 np (z + 1)) 7 np (z + 1 + 1)).1 7 np) (z + 1 + 1 + 1, hv (alA (alA (alA A 5 np z) 6 np (z + 1)) 7 np (z + 1 + 1)) (z3 (z3 (z3 iv 5 np 0) 6 np 0) 7 np 0) (z3 (z3 (z3 rv 5 np none) 6 np none) 7 np none) ov) := fun K => (newI_hv hO2 hd7' (by rfl) (by rfl)).1
      rw [← a5] at hnew1
      rw [← a6] at hnew2
      generalize alA (alA (alA A 5 np z) 6 np (z + 1)) 7 np (z + 1 + 1) = A3 at hO3 a_ a5 a6 l7 l6 l5 lm ln hnew1 hnew2 hnew3
      have hI3 := hO3.1
      have hF3 : RFA A3 (u3 (u3 (u3 (z3 (z3 (z3 rv 5 np none) 6 np none) 7 np none) 6 np 2 (some (7, np))) 5 np 0 (some (6, np))) 1 0 np (some (5, np))) := by
        have f1 : RFA A3 (z3 (z3 (z3 rv 5 np none) 6 np none) 7 np none) := hO3.2.2
        exact ((f1.ref l7).ref l6).ref l5
      have hM3 : MD A3 (u3 (u3 (u3 (z3 (z3 (z3 rv 5 np none) 6 np none) 7 np none) 6 np 2 (some (7, np))) 5 np 0 (some (6, np))) 1 0 np (some (5, np))) := hM.to hI3 lm (fun j => by simp [u3, z3])
      refine fin_ok (x := nI np) (A := A3) (iv1 := (u3 (u3 (u3 (u3 (u3 (u3 (z3 (z3 (z3 iv 5 np 0) 6 np 0) 7 np 0) 6 np 0 (nI w)) 6 np 1 (nI hh)) 5 np 1 (nI s)) 5 np 2 (nI (rcM w s))) 5 np 3 (nI (rrM hh s))) 0 0 1 (nI (np + 1)))) (iv2 := (u3 (u3 (u3 (u3 (u3 (u3 (u3 (u3 (u3 (u3 (u3 (z3 (z3 (z3 iv 5 np 0) 6 np 0) 7 np 0) 6 np 0 (nI w)) 6 np 1 (nI hh)) 5 np 1 (nI s)) 5 np 2 (nI (rcM w s))) 5 np 3 (nI (rrM hh s))) 0 0 1 (nI (np + 1))) 20 0 0 0) 21 0 np (nI w)) 22 0 np (nI hh)) 23 0 np (nI s)) 20 0 1 (nI (np + 1)))) (rv := (u3 (u3 (u3 (z3 (z3 (z3 rv 5 np none) 6 np none) 7 np none) 6 np 2 (some (7, np))) 5 np 0 (some (6, np))) 1 0 np (some (5, np)))) (ov := ov) (z := z + 1 + 1 + 1) (np := np + 1) (nr := nr) (nl := nl) ?_ (fun z1 ov' => ?_) ?_ hF3 (a_ 0 0 (by decide) (by decide) (by decide)) (a_ 20 0 (by decide) (by decide) (by decide)) (a_ 18 0 (by decide) (by decide) (by decide)) ?_
      · rw [cHead]
        unfold F_X7_pattern_b38
        rw [gfI_hv hA t0 (by rfl) (by decide) (by rfl), n1, if_neg (nI_pos (by omega)), gfR_hv hA t0 (by rfl) (by decide) (by rfl), w0, rfv_s, nn_s, alen_R (k := 0) hA t1 (by rfl) (by decide), show kn 1 = 6 from rfl, if_pos (nI_lt hn (by decide)), gfR_hv hA t0 (by rfl) (by decide) (by rfl), w0, rfv_s, hnew1]
        unfold F_X3_init
        rw [hnew2]
        unfold F_X0_init
        rw [hnew3, pfR_hv hI3 l6 (by rfl) (by decide) (by rfl), pf_hv hI3 l6 (by rfl) (by decide) (by rfl), pf_hv hI3 l6 (by rfl) (by decide) (by rfl), bnd_v, pfR_hv hI3 l5 (by rfl) (by decide) (by rfl), pf_hv hI3 l5 (by rfl) (by decide) (by rfl), tail_spec hI3 l5 hs5, bnd_v, nn_s, ← a_ 1 0 (by decide) (by decide) (by decide), astR_hv (q := 0) hI3 (lm _ _ t1) (by rfl) (show np < 6 from hn) l5 (by rfl) (by decide), ← a_ 0 0 (by decide) (by decide) (by decide), pf_hv hI3 (lm _ _ t0) (by rfl) (by decide) (by rfl), nI_1]
      · have e1 : (u3 (u3 (u3 (u3 (u3 (u3 (z3 (z3 (z3 iv 5 np 0) 6 np 0) 7 np 0) 6 np 0 (nI w)) 6 np 1 (nI hh)) 5 np 1 (nI s)) 5 np 2 (nI (rcM w s))) 5 np 3 (nI (rrM hh s))) 0 0 1 (nI (np + 1))) 20 0 1 = nI np := by
          simp [u3, z3]
          exact n2
        generalize (u3 (u3 (u3 (u3 (u3 (u3 (z3 (z3 (z3 iv 5 np 0) 6 np 0) 7 np 0) 6 np 0 (nI w)) 6 np 1 (nI hh)) 5 np 1 (nI s)) 5 np 2 (nI (rcM w s))) 5 np 3 (nI (rrM hh s))) 0 0 1 (nI (np + 1))) = iv1 at e1 ⊢
        rw [mHead]
        unfold F_X8_pattern_b42
        rw [if_neg (by decide), ← a_ 20 0 (by decide) (by decide) (by decide), mI1 hM3, e1, if_neg (show ¬ nI np = 6 from fun q => by have := nI_inj (b := 6) (by omega) (by omega) q; omega), mpattern_spec hM3 e1 hn]
      · simp [u3]
      · have e : ∀ T i j, T ≠ 0 ∧ T ≠ 5 ∧ T ≠ 6 ∧ T ≠ 7 ∧ T ≠ 20 ∧ T ≠ 21 ∧ T ≠ 22 ∧ T ≠ 23 → (u3 (u3 (u3 (u3 (u3 (u3 (u3 (u3 (u3 (u3 (u3 (z3 (z3 (z3 iv 5 np 0) 6 np 0) 7 np 0) 6 np 0 (nI w)) 6 np 1 (nI hh)) 5 np 1 (nI s)) 5 np 2 (nI (rcM w s))) 5 np 3 (nI (rrM hh s))) 0 0 1 (nI (np + 1))) 20 0 0 0) 21 0 np (nI w)) 22 0 np (nI hh)) 23 0 np (nI s)) 20 0 1 (nI (np + 1))) T i j = iv T i j := by
          rintro T i j ⟨x1, x2, x3, x4, x5, x6, x7, x8⟩
          simp [u3, z3, x1, x2, x3, x4, x5, x6, x7, x8]
        have e0 : ∀ j, j ≠ 1 → (u3 (u3 (u3 (u3 (u3 (u3 (u3 (u3 (u3 (u3 (u3 (z3 (z3 (z3 iv 5 np 0) 6 np 0) 7 np 0) 6 np 0 (nI w)) 6 np 1 (nI hh)) 5 np 1 (nI s)) 5 np 2 (nI (rcM w s))) 5 np 3 (nI (rrM hh s))) 0 0 1 (nI (np + 1))) 20 0 0 0) 21 0 np (nI w)) 22 0 np (nI hh)) 23 0 np (nI s)) 20 0 1 (nI (np + 1))) 0 0 j = iv 0 0 j := by
          intro j hj
          simp [u3, z3, hj]
        have e01 : (u3 (u3 (u3 (u3 (u3 (u3 (u3 (u3 (u3 (u3 (u3 (z3 (z3 (z3 iv 5 np 0) 6 np 0) 7 np 0) 6 np 0 (nI w)) 6 np 1 (nI hh)) 5 np 1 (nI s)) 5 np 2 (nI (rcM w s))) 5 np 3 (nI (rrM hh s))) 0 0 1 (nI (np + 1))) 20 0 0 0) 21 0 np (nI w)) 22 0 np (nI hh)) 23 0 np (nI s)) 20 0 1 (nI (np + 1))) 0 0 1 = nI (np + 1) := by simp [u3, z3]
        have e20 : ∀ j, j ≠ 0 → j ≠ 1 → (u3 (u3 (u3 (u3 (u3 (u3 (u3 (u3 (u3 (u3 (u3 (z3 (z3 (z3 iv 5 np 0) 6 np 0) 7 np 0) 6 np 0 (nI w)) 6 np 1 (nI hh)) 5 np 1 (nI s)) 5 np 2 (nI (rcM w s))) 5 np 3 (nI (rrM hh s))) 0 0 1 (nI (np + 1))) 20 0 0 0) 21 0 np (nI w)) 22 0 np (nI hh)) 23 0 np (nI s)) 20 0 1 (nI (np + 1))) 20 0 j = iv 20 0 j := by
          intro j hj hj2
          simp [u3, z3, hj, hj2]
        have e201 : (u3 (u3 (u3 (u3 (u3 (u3 (u3 (u3 (u3 (u3 (u3 (z3 (z3 (z3 iv 5 np 0) 6 np 0) 7 np 0) 6 np 0 (nI w)) 6 np 1 (nI hh)) 5 np 1 (nI s)) 5 np 2 (nI (rcM w s))) 5 np 3 (nI (rrM hh s))) 0 0 1 (nI (np + 1))) 20 0 0 0) 21 0 np (nI w)) 22 0 np (nI hh)) 23 0 np (nI s)) 20 0 1 (nI (np + 1))) 20 0 1 = nI (np + 1) := by simp [u3, z3]
        have e5 : ∀ i j, i ≠ np → (u3 (u3 (u3 (u3 (u3 (u3 (u3 (u3 (u3 (u3 (u3 (z3 (z3 (z3 iv 5 np 0) 6 np 0) 7 np 0) 6 np 0 (nI w)) 6 np 1 (nI hh)) 5 np 1 (nI s)) 5 np 2 (nI (rcM w s))) 5 np 3 (nI (rrM hh s))) 0 0 1 (nI (np + 1))) 20 0 0 0) 21 0 np (nI w)) 22 0 np (nI hh)) 23 0 np (nI s)) 20 0 1 (nI (np + 1))) 5 i j = iv 5 i j ∧ (u3 (u3 (u3 (u3 (u3 (u3 (u3 (u3 (u3 (u3 (u3 (z3 (z3 (z3 iv 5 np 0) 6 np 0) 7 np 0) 6 np 0 (nI w)) 6 np 1 (nI hh)) 5 np 1 (nI s)) 5 np 2 (nI (rcM w s))) 5 np 3 (nI (rrM hh s))) 0 0 1 (nI (np + 1))) 20 0 0 0) 21 0 np (nI w)) 22 0 np (nI hh)) 23 0 np (nI s)) 20 0 1 (nI (np + 1))) 6 i j = iv 6 i j ∧ (u3 (u3 (u3 (u3 (u3 (u3 (u3 (u3 (u3 (u3 (u3 (z3 (z3 (z3 iv 5 np 0) 6 np 0) 7 np 0) 6 np 0 (nI w)) 6 np 1 (nI hh)) 5 np 1 (nI s)) 5 np 2 (nI (rcM w s))) 5 np 3 (nI (rrM hh s))) 0 0 1 (nI (np + 1))) 20 0 0 0) 21 0 np (nI w)) 22 0 np (nI hh)) 23 0 np (nI s)) 20 0 1 (nI (np + 1))) 7 i j = iv 7 i j := by
          intro i j hi
          simp [u3, z3, hi]
        have e21 : ∀ i, i ≠ np → (u3 (u3 (u3 (u3 (u3 (u3 (u3 (u3 (u3 (u3 (u3 (z3 (z3 (z3 iv 5 np 0) 6 np 0) 7 np 0) 6 np 0 (nI w)) 6 np 1 (nI hh)) 5 np 1 (nI s)) 5 np 2 (nI (rcM w s))) 5 np 3 (nI (rrM hh s))) 0 0 1 (nI (np + 1))) 20 0 0 0) 21 0 np (nI w)) 22 0 np (nI hh)) 23 0 np (nI s)) 20 0 1 (nI (np + 1))) 21 0 i = iv 21 0 i ∧ (u3 (u3 (u3 (u3 (u3 (u3 (u3 (u3 (u3 (u3 (u3 (z3 (z3 (z3 iv 5 np 0) 6 np 0) 7 np 0) 6 np 0 (nI w)) 6 np 1 (nI hh)) 5 np 1 (nI s)) 5 np 2 (nI (rcM w s))) 5 np 3 (nI (rrM hh s))) 0 0 1 (nI (np + 1))) 20 0 0 0) 21 0 np (nI w)) 22 0 np (nI hh)) 23 0 np (nI s)) 20 0 1 (nI (np + 1))) 22 0 i = iv 22 0 i ∧ (u3 (u3 (u3 (u3 (u3 (u3 (u3 (u3 (u3 (u3 (u3 (z3 (z3 (z3 iv 5 np 0) 6 np 0) 7 np 0) 6 np 0 (nI w)) 6 np 1 (nI hh)) 5 np 1 (nI s)) 5 np 2 (nI (rcM w s))) 5 np 3 (nI (rrM hh s))) 0 0 1 (nI (np + 1))) 20 0 0 0) 21 0 np (nI w)) 22 0 np (nI hh)) 23 0 np (nI s)) 20 0 1 (nI (np + 1))) 23 0 i = iv 23 0 i := by
          intro i hi
          simp [u3, z3, hi]
        have e21n : (u3 (u3 (u3 (u3 (u3 (u3 (u3 (u3 (u3 (u3 (u3 (z3 (z3 (z3 iv 5 np 0) 6 np 0) 7 np 0) 6 np 0 (nI w)) 6 np 1 (nI hh)) 5 np 1 (nI s)) 5 np 2 (nI (rcM w s))) 5 np 3 (nI (rrM hh s))) 0 0 1 (nI (np + 1))) 20 0 0 0) 21 0 np (nI w)) 22 0 np (nI hh)) 23 0 np (nI s)) 20 0 1 (nI (np + 1))) 21 0 np = nI w ∧ (u3 (u3 (u3 (u3 (u3 (u3 (u3 (u3 (u3 (u3 (u3 (z3 (z3 (z3 iv 5 np 0) 6 np 0) 7 np 0) 6 np 0 (nI w)) 6 np 1 (nI hh)) 5 np 1 (nI s)) 5 np 2 (nI (rcM w s))) 5 np 3 (nI (rrM hh s))) 0 0 1 (nI (np + 1))) 20 0 0 0) 21 0 np (nI w)) 22 0 np (nI hh)) 23 0 np (nI s)) 20 0 1 (nI (np + 1))) 22 0 np = nI hh ∧ (u3 (u3 (u3 (u3 (u3 (u3 (u3 (u3 (u3 (u3 (u3 (z3 (z3 (z3 iv 5 np 0) 6 np 0) 7 np 0) 6 np 0 (nI w)) 6 np 1 (nI hh)) 5 np 1 (nI s)) 5 np 2 (nI (rcM w s))) 5 np 3 (nI (rrM hh s))) 0 0 1 (nI (np + 1))) 20 0 0 0) 21 0 np (nI w)) 22 0 np (nI hh)) 23 0 np (nI s)) 20 0 1 (nI (np + 1))) 23 0 np = nI s := by simp [u3, z3]
        have e5n : (u3 (u3 (u3 (u3 (u3 (u3 (u3 (u3 (u3 (u3 (u3 (z3 (z3 (z3 iv 5 np 0) 6 np 0) 7 np 0) 6 np 0 (nI w)) 6 np 1 (nI hh)) 5 np 1 (nI s)) 5 np 2 (nI (rcM w s))) 5 np 3 (nI (rrM hh s))) 0 0 1 (nI (np + 1))) 20 0 0 0) 21 0 np (nI w)) 22 0 np (nI hh)) 23 0 np (nI s)) 20 0 1 (nI (np + 1))) 5 np 1 = nI s ∧ (u3 (u3 (u3 (u3 (u3 (u3 (u3 (u3 (u3 (u3 (u3 (z3 (z3 (z3 iv 5 np 0) 6 np 0) 7 np 0) 6 np 0 (nI w)) 6 np 1 (nI hh)) 5 np 1 (nI s)) 5 np 2 (nI (rcM w s))) 5 np 3 (nI (rrM hh s))) 0 0 1 (nI (np + 1))) 20 0 0 0) 21 0 np (nI w)) 22 0 np (nI hh)) 23 0 np (nI s)) 20 0 1 (nI (np + 1))) 5 np 2 = nI (rcM w s) ∧ (u3 (u3 (u3 (u3 (u3 (u3 (u3 (u3 (u3 (u3 (u3 (z3 (z3 (z3 iv 5 np 0) 6 np 0) 7 np 0) 6 np 0 (nI w)) 6 np 1 (nI hh)) 5 np 1 (nI s)) 5 np 2 (nI (rcM w s))) 5 np 3 (nI (rrM hh s))) 0 0 1 (nI (np + 1))) 20 0 0 0) 21 0 np (nI w)) 22 0 np (nI hh)) 23 0 np (nI s)) 20 0 1 (nI (np + 1))) 5 np 3 = nI (rrM hh s) ∧ (u3 (u3 (u3 (u3 (u3 (u3 (u3 (u3 (u3 (u3 (u3 (z3 (z3 (z3 iv 5 np 0) 6 np 0) 7 np 0) 6 np 0 (nI w)) 6 np 1 (nI hh)) 5 np 1 (nI s)) 5 np 2 (nI (rcM w s))) 5 np 3 (nI (rrM hh s))) 0 0 1 (nI (np + 1))) 20 0 0 0) 21 0 np (nI w)) 22 0 np (nI hh)) 23 0 np (nI s)) 20 0 1 (nI (np + 1))) 6 np 0 = nI w ∧ (u3 (u3 (u3 (u3 (u3 (u3 (u3 (u3 (u3 (u3 (u3 (z3 (z3 (z3 iv 5 np 0) 6 np 0) 7 np 0) 6 np 0 (nI w)) 6 np 1 (nI hh)) 5 np 1 (nI s)) 5 np 2 (nI (rcM w s))) 5 np 3 (nI (rrM hh s))) 0 0 1 (nI (np + 1))) 20 0 0 0) 21 0 np (nI w)) 22 0 np (nI hh)) 23 0 np (nI s)) 20 0 1 (nI (np + 1))) 6 np 1 = nI hh := by simp [u3, z3]
        have e7n : ∀ j, (u3 (u3 (u3 (u3 (u3 (u3 (u3 (u3 (u3 (u3 (u3 (z3 (z3 (z3 iv 5 np 0) 6 np 0) 7 np 0) 6 np 0 (nI w)) 6 np 1 (nI hh)) 5 np 1 (nI s)) 5 np 2 (nI (rcM w s))) 5 np 3 (nI (rrM hh s))) 0 0 1 (nI (np + 1))) 20 0 0 0) 21 0 np (nI w)) 22 0 np (nI hh)) 23 0 np (nI s)) 20 0 1 (nI (np + 1))) 7 np j = 0 := by
          intro j
          simp [u3, z3]
        have er : ∀ T i j, T ≠ 1 → T ≠ 5 → T ≠ 6 → T ≠ 7 → (u3 (u3 (u3 (z3 (z3 (z3 rv 5 np none) 6 np none) 7 np none) 6 np 2 (some (7, np))) 5 np 0 (some (6, np))) 1 0 np (some (5, np))) T i j = rv T i j := by
          intro T i j x1 x2 x3 x4
          simp [u3, z3, x1, x2, x3, x4]
        have er5 : ∀ i j, i ≠ np → (u3 (u3 (u3 (z3 (z3 (z3 rv 5 np none) 6 np none) 7 np none) 6 np 2 (some (7, np))) 5 np 0 (some (6, np))) 1 0 np (some (5, np))) 5 i j = rv 5 i j ∧ (u3 (u3 (u3 (z3 (z3 (z3 rv 5 np none) 6 np none) 7 np none) 6 np 2 (some (7, np))) 5 np 0 (some (6, np))) 1 0 np (some (5, np))) 6 i j = rv 6 i j := by
          intro i j hi
          simp [u3, z3, hi]
        have er5n : (u3 (u3 (u3 (z3 (z3 (z3 rv 5 np none) 6 np none) 7 np none) 6 np 2 (some (7, np))) 5 np 0 (some (6, np))) 1 0 np (some (5, np))) 5 np 0 = some (6, np) ∧ (u3 (u3 (u3 (z3 (z3 (z3 rv 5 np none) 6 np none) 7 np none) 6 np 2 (some (7, np))) 5 np 0 (some (6, np))) 1 0 np (some (5, np))) 6 np 2 = some (7, np) := by simp [u3, z3]
        have er1 : ∀ j, j ≠ np → (u3 (u3 (u3 (z3 (z3 (z3 rv 5 np none) 6 np none) 7 np none) 6 np 2 (some (7, np))) 5 np 0 (some (6, np))) 1 0 np (some (5, np))) 1 0 j = rv 1 0 j := by
          intro j hj
          simp [u3, z3, hj]
        have er1n : (u3 (u3 (u3 (z3 (z3 (z3 rv 5 np none) 6 np none) 7 np none) 6 np 2 (some (7, np))) 5 np 0 (some (6, np))) 1 0 np (some (5, np))) 1 0 np = some (5, np) := by simp [u3, z3]
        generalize (u3 (u3 (u3 (u3 (u3 (u3 (u3 (u3 (u3 (u3 (u3 (z3 (z3 (z3 iv 5 np 0) 6 np 0) 7 np 0) 6 np 0 (nI w)) 6 np 1 (nI hh)) 5 np 1 (nI s)) 5 np 2 (nI (rcM w s))) 5 np 3 (nI (rrM hh s))) 0 0 1 (nI (np + 1))) 20 0 0 0) 21 0 np (nI w)) 22 0 np (nI hh)) 23 0 np (nI s)) 20 0 1 (nI (np + 1))) = iv2 at e e0 e01 e20 e201 e5 e21 e21n e5n e7n ⊢
        generalize (u3 (u3 (u3 (z3 (z3 (z3 rv 5 np none) 6 np none) 7 np none) 6 np 2 (some (7, np))) 5 np 0 (some (6, np))) 1 0 np (some (5, np))) = rv2 at hF3 hM3 er er5 er5n er1 er1n ⊢
        obtain ⟨f1, f2, f3, f4, f5, f6, f7⟩ := h
        refine ⟨hM3, ⟨⟨lm _ _ t0, lm _ _ t1, lm _ _ t2, lm _ _ t3, lm _ _ t4⟩, ⟨(er _ _ _ (by decide) (by decide) (by decide) (by decide)).trans w0, (er _ _ _ (by decide) (by decide) (by decide) (by decide)).trans w1, (er _ _ _ (by decide) (by decide) (by decide) (by decide)).trans w2, (er _ _ _ (by decide) (by decide) (by decide) (by decide)).trans w3⟩, fun i hi => ?_, fun i hi => (er _ _ _ (by decide) (by decide) (by decide) (by decide)).trans (w5 i hi), fun i hi => (er _ _ _ (by decide) (by decide) (by decide) (by decide)).trans (w6 i hi), fun i hi => (er _ _ _ (by decide) (by decide) (by decide) (by decide)).trans (w7 i hi), fun i hi => ?_, fun i hi => ?_, fun i hi => (ln _ _ (by omega)).trans (d3 i hi), lm _ _ t18, fun i hi => o18 i (by rw [← ln 18 i (by omega)]; exact hi)⟩, ⟨e01, e201, hn, (e0 3 (by decide)).trans n4, (e20 6 (by decide) (by decide)).trans n5, n6, (e0 5 (by decide)).trans n7, (e20 10 (by decide) (by decide)).trans n8, n9, by rw [e20 28 (by decide) (by decide), e0 7 (by decide), n10], fun k hk => (e _ _ _ (by decide)).trans (n11 k (by omega))⟩, fun i hi => ?_, fun i hi => (f5 i hi).to (Nat.le_succ _) lm (er _ _ _ (by decide) (by decide) (by decide) (by decide)) (er _ _ _ (by decide) (by decide) (by decide) (by decide)) ?_ ?_ ?_ ?_ (fun p hp => (e21 p (by omega)).1) (fun p hp => (e21 p (by omega)).2.1) (fun p hp => (e21 p (by omega)).2.2) ?_ ?_ ?_, fun i hi => (f6 i hi).to (Nat.le_refl _) lm (er _ _ _ (by decide) (by decide) (by decide) (by decide)) ?_ ?_ ?_ ?_ ?_, fun r' hr' => (f7 r' hr').to (Nat.le_refl _) lm (fun w _ hw => ⟨(ln _ _ (by omega)).trans hw.1, (ln _ _ (by omega)).trans hw.2⟩) (fun _ => er _ _ _ (by decide) (by decide) (by decide) (by decide)) (er _ _ _ (by decide) (by decide) (by decide) (by decide)) (fun _ _ => er _ _ _ (by decide) (by decide) (by decide) (by decide)) (fun _ _ => er _ _ _ (by decide) (by decide) (by decide) (by decide)) (fun _ _ => er _ _ _ (by decide) (by decide) (by decide) (by decide)) ?_ ?_ ?_ ?_ ?_ ?_ ?_ ?_ ?_ ?_ ?_ ?_ ?_ ?_ ?_ (fun l k _ hk => ⟨k, Nat.le_refl _, (e _ _ _ (by decide)).trans hk⟩) ?_⟩
        · by_cases hin : i = np
          · subst hin
            rw [er1n, if_pos (by omega)]
          · rw [er1 i hin, w4 i hi]
            by_cases hi2 : i < np
            · rw [if_pos hi2, if_pos (by omega)]
            · rw [if_neg hi2, if_neg (by omega)]
        · obtain ⟨y1, y2, y3⟩ := d1 i (by omega)
          exact ⟨(ln _ _ (by omega)).trans y1, (ln _ _ (by omega)).trans y2, (ln _ _ (by omega)).trans y3⟩
        · obtain ⟨y1, y2, y3⟩ := d2 i hi
          exact ⟨(ln _ _ (by omega)).trans y1, (ln _ _ (by omega)).trans y2, (ln _ _ (by omega)).trans y3⟩
        · by_cases hin : i = np
          · subst hin
            refine ⟨w, hh, s, ⟨l5, ⟨l6, l7, by rfl, by rfl, by rfl, er5n.2, e5n.2.2.2.1, e5n.2.2.2.2, hw1, by omega, hh1, by omega⟩, er5n.1, e5n.1, e5n.2.1, e5n.2.2.1, hw2, hh2, hs5, hsq'⟩, ⟨hn, e21n.1, e21n.2.1, e21n.2.2, hw1, hw2, hh1, hh2, hs5, hsq'⟩, fun a b ha hb => ?_⟩
            unfold cF mF
            rw [e7n, e _ _ _ (by decide), n11 _ (by omega)]
          · exact (f4 i (by omega)).to lm (er5 _ _ hin).1 (er5 _ _ hin).2 (fun j => (e5 i j hin).1) (fun j => (e5 i j hin).2.1) (fun j => (e5 i j hin).2.2) (e21 i hin).1 (e21 i hin).2.1 (e21 i hin).2.2 (fun k _ _ => e _ _ _ (by decide))
        all_goals intros
        all_goals exact e _ _ _ (by decide)
    · refine op_ref (z := z) (ov := ov) (k := 2) (b := 0) h hF ?_ (fun _ => wc2 (by decide)) (by decide) (fun z1 => ?_)
      · rw [cHead]
        unfold F_X7_pattern_b38 F_X7_pattern_b59
        rw [gfI_hv hA t0 (by rfl) (by decide) (by rfl), n1, if_neg (nI_pos (by omega)), gfR_hv hA t0 (by rfl) (by decide) (by rfl), w0, rfv_s, nn_s, alen_R (k := 0) hA t1 (by rfl) (by decide), show kn 1 = 6 from rfl, if_neg (nI_nlt (by omega) (by omega))]
      · rw [mHead]
        unfold F_X8_pattern_b42
        rw [if_neg (by decide), mI1 hM, n2, if_pos (show nI np = 6 by rw [show np = 6 by omega]; rfl)]
        exact mbad z1 2 (by omega)
  · have mOut : ∀ hp, F_X8_pattern (A.1 20 0) v1 v2 v3 hp = F_X8_pattern_b68 (A.1 20 0) v1 v2 v3 1 (A.1 20 0) hp := by
      intro hp
      unfold F_X8_pattern F_X8_pattern_b37 F_X8_pattern_b41 F_X8_pattern_b42
      by_cases q1 : inR v1 1 5
      · rw [is_in q1, bnd_v, if_neg (by decide)]
        by_cases q2 : inR v2 1 5
        · rw [is_in q2, bnd_v, if_neg (by decide)]
          by_cases q3 : inR v3 0 5
          · rw [is_in q3, bnd_v, if_neg (by decide)]
            by_cases q : v3 = 5
            · rw [if_pos q]
              by_cases q5 : v1 = v2
              · exact absurd ⟨⟨q1, q2, q3⟩, fun _ => q5⟩ hrg
              · rw [if_neg q5, if_pos rfl]
            · exact absurd ⟨⟨q1, q2, q3⟩, fun q5 => absurd q5 q⟩ hrg
          · rw [is_out q3, bnd_v, if_pos rfl, if_pos rfl]
        · rw [is_out q2, bnd_v, if_pos rfl, if_pos rfl]
      · rw [is_out q1, bnd_v, if_pos rfl, if_pos rfl]
    refine op_ref (z := z) (ov := ov) (k := 1) (b := 0) h hF ?_ (fun _ => wc1) (by decide) (fun z1 => ?_)
    · unfold F_X7_pattern
      by_cases q1 : inR v1 1 5
      · rw [req_in q1, bnd_v]
        by_cases q2 : inR v2 1 5
        · rw [req_in q2, bnd_v]
          by_cases q3 : inR v3 0 5
          · rw [req_in q3, bnd_v]
            by_cases q : v3 = 5
            · rw [if_pos q]
              by_cases q5 : v1 = v2
              · exact absurd ⟨⟨q1, q2, q3⟩, fun _ => q5⟩ hrg
              · rw [if_neg q5]
            · exact absurd ⟨⟨q1, q2, q3⟩, fun q5 => absurd q5 q⟩ hrg
          · rw [req_out q3, bnd_t]
        · rw [req_out q2, bnd_t]
      · rw [req_out q1, bnd_t]
    · rw [mOut]
      exact mbad z1 1 (by omega)
end PN
