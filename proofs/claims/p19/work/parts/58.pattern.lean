/-! pattern -/
section PN
variable {A : Adr} {iv : IVt} {rv : RVt} {ov : Nat → Int64} {z np nr nl : Nat}
theorem tail_spec {i w h s : Nat} (hA : IN A) (hl : A.2.2 5 i = true) (hs : s ≤ 5) : (if nI s = 0 then F_X3_init_b31 (A.1 5 i) (nI w) (nI h) (nI s) (z, hv A iv rv ov) else (if nI s = 1 then F_X3_init_b31 (A.1 5 i) (nI w) (nI h) (nI s) (z, hv A iv rv ov) else F_X3_init_b36 (A.1 5 i) (nI w) (nI h) (nI s) 0 (z, hv A iv rv ov))) = rtv () (z, hv A (u3 (u3 iv 5 i 2 (nI (rcM w s))) 5 i 3 (nI (rrM h s))) rv ov) := by
  rcases (show s = 0 ∨ s = 1 ∨ s = 2 ∨ s = 3 ∨ s = 4 ∨ s = 5 by omega) with rfl | rfl | rfl | rfl | rfl | rfl
  · rw [if_pos (by decide)]
    unfold F_X3_init_b31 F_X3_init_b36
    rw [if_pos (by decide)]
    unfold F_X3_init_b52 F_X3_init_b57
    rw [if_neg (by decide)]
    unfold F_X3_init_b72
    rw [pf_hv hA hl (by rfl) (by decide) (by rfl), if_neg (by decide), pf_hv hA hl (by rfl) (by decide) (by rfl)]
    rfl
  · rw [if_neg (by decide), if_pos (by decide)]
    unfold F_X3_init_b31 F_X3_init_b36
    rw [if_neg (by decide), if_neg (by decide), if_neg (by decide)]
    unfold F_X3_init_b57
    rw [if_neg (by decide)]
    unfold F_X3_init_b72
    rw [pf_hv hA hl (by rfl) (by decide) (by rfl), if_pos (by decide), pf_hv hA hl (by rfl) (by decide) (by rfl), show (2 : Int32) = nI 2 from rfl, pk_mul]
    rfl
  · rw [if_neg (by decide), if_neg (by decide)]
    unfold F_X3_init_b36
    rw [if_neg (by decide), if_pos (by decide)]
    unfold F_X3_init_b52 F_X3_init_b57
    rw [if_pos (by decide)]
    unfold F_X3_init_b72
    rw [pf_hv hA hl (by rfl) (by decide) (by rfl), if_neg (by decide), pf_hv hA hl (by rfl) (by decide) (by rfl), show (2 : Int32) = nI 2 from rfl, pk_mul]
    rfl
  · rw [if_neg (by decide), if_neg (by decide)]
    unfold F_X3_init_b36
    rw [if_neg (by decide), if_neg (by decide), if_pos (by decide)]
    unfold F_X3_init_b52 F_X3_init_b57
    rw [if_pos (by decide)]
    unfold F_X3_init_b72
    rw [pf_hv hA hl (by rfl) (by decide) (by rfl), if_neg (by decide), pf_hv hA hl (by rfl) (by decide) (by rfl), show (2 : Int32) = nI 2 from rfl, pk_mul]
    rfl
  · rw [if_neg (by decide), if_neg (by decide)]
    unfold F_X3_init_b36
    rw [if_neg (by decide), if_neg (by decide), if_neg (by decide)]
    unfold F_X3_init_b57
    rw [if_pos (by decide)]
    unfold F_X3_init_b72
    rw [pf_hv hA hl (by rfl) (by decide) (by rfl), if_pos (by decide), pf_hv hA hl (by rfl) (by decide) (by rfl), show (2 : Int32) = nI 2 from rfl, pk_mul, pk_mul]
    rfl
  · rw [if_neg (by decide), if_neg (by decide)]
    unfold F_X3_init_b36
    rw [if_neg (by decide), if_neg (by decide), if_neg (by decide)]
    unfold F_X3_init_b57
    rw [if_pos (by decide)]
    unfold F_X3_init_b72
    rw [pf_hv hA hl (by rfl) (by decide) (by rfl), if_pos (by decide), pf_hv hA hl (by rfl) (by decide) (by rfl), show (2 : Int32) = nI 2 from rfl, pk_mul, pk_mul]
    rfl
theorem k_pattern {w hh s : Nat} (hO : OKA A rv z) (h : INV A iv rv np nr nl) (hn : np < 6) (hw1 : 1 ≤ w) (hw2 : w ≤ 5) (hh1 : 1 ≤ hh) (hh2 : hh ≤ 5) (hs5 : s ≤ 5) (hsq : s = 5 → w = hh) : ∃ A' iv' rv', F_X7_pattern (A.1 0 0) (nI w) (nI hh) (nI s) (z, hv A iv rv ov) = rtv (nI np) (z + 1 + 1 + 1, hv A' iv' rv' ov) ∧ OKA A' rv' (z + 1 + 1 + 1) ∧ INV A' iv' rv' (np + 1) nr nl ∧ FRK A iv rv A' iv' rv' ∧ FRW iv iv' ∧ PAT A' iv' rv' np w hh s ∧ iv' 0 0 7 = iv 0 0 7 ∧ ∀ i, A'.2.2 19 i = A.2.2 19 i := by
  have hA := h.1
  obtain ⟨⟨t0, t1, t2, t3, t4⟩, ⟨w0, w1, w2, w3⟩, w4, w5, w6, w7, d1, d2, d3⟩ := id h.2.1
  obtain ⟨n1, n3, n4, n6, n7, n9⟩ := id h.2.2.1
  have hv1 : inR (nI w) 1 5 := rg_to (a := 1) (b := 5) hw1 hw2 (by decide)
  have hv2 : inR (nI hh) 1 5 := rg_to (a := 1) (b := 5) hh1 hh2 (by decide)
  have hv3 : inR (nI s) 0 5 := rg_to (a := 0) (b := 5) (Nat.zero_le _) hs5 (by decide)
  have cHead : F_X7_pattern (A.1 0 0) (nI w) (nI hh) (nI s) (z, hv A iv rv ov) = F_X7_pattern_b38 (A.1 0 0) (nI w) (nI hh) (nI s) (z, hv A iv rv ov) := by
    unfold F_X7_pattern
    rw [req_in hv1, bnd_v, req_in hv2, bnd_v, req_in hv3, bnd_v]
    by_cases q : nI s = 5
    · have q5 : s = 5 := nI_inj (b := 5) (by omega) (by decide) q
      rw [if_pos q, if_pos (by rw [hsq q5])]
    · rw [if_neg q]
  obtain ⟨hd5, hd6, hd7⟩ := d1 np (Nat.le_refl _)
  have hO1 := hO.al hd5
  have hd6' : (alA A 5 np z).2.2 6 np = false := (alA_ln (by omega)).trans hd6
  have hO2 := hO1.al hd6'
  have hd7' : (alA (alA A 5 np z) 6 np (z + 1)).2.2 7 np = false := (alA_ln (by omega)).trans ((alA_ln (by omega)).trans hd7)
  have hO3 := hO2.al hd7'
  have a_ : ∀ T i, A.2.2 T i = true → (alA (alA (alA A 5 np z) 6 np (z + 1)) 7 np (z + 1 + 1)).1 T i = A.1 T i := fun T i hl => (alA_n (fun w => by rw [w.1, w.2, hd7] at hl; cases hl)).trans ((alA_n (fun w => by rw [w.1, w.2, hd6] at hl; cases hl)).trans (alA_n (fun w => by rw [w.1, w.2, hd5] at hl; cases hl)))
  have a5 : (alA (alA (alA A 5 np z) 6 np (z + 1)) 7 np (z + 1 + 1)).1 5 np = (alA A 5 np z).1 5 np := (alA_n (by omega)).trans (alA_n (by omega))
  have a6 : (alA (alA (alA A 5 np z) 6 np (z + 1)) 7 np (z + 1 + 1)).1 6 np = (alA (alA A 5 np z) 6 np (z + 1)).1 6 np := alA_n (by omega)
  have l7 : (alA (alA (alA A 5 np z) 6 np (z + 1)) 7 np (z + 1 + 1)).2.2 7 np = true := alA_l
  have l6 : (alA (alA (alA A 5 np z) 6 np (z + 1)) 7 np (z + 1 + 1)).2.2 6 np = true := alA_lt alA_l
  have l5 : (alA (alA (alA A 5 np z) 6 np (z + 1)) 7 np (z + 1 + 1)).2.2 5 np = true := alA_lt (alA_lt alA_l)
  have lm : ∀ T i, A.2.2 T i = true → (alA (alA (alA A 5 np z) 6 np (z + 1)) 7 np (z + 1 + 1)).2.2 T i = true := fun T i hl => alA_lt (alA_lt (alA_lt hl))
  have ln : ∀ T i, (T ≠ 5 ∧ T ≠ 6 ∧ T ≠ 7) ∨ i ≠ np → (alA (alA (alA A 5 np z) 6 np (z + 1)) 7 np (z + 1 + 1)).2.2 T i = A.2.2 T i := fun T i hT => (alA_ln (by omega)).trans ((alA_ln (by omega)).trans (alA_ln (by omega)))
  have hnew1 : ∀ {α : Type} (K : Nat → hpT → Rs α), newO (z, hv A iv rv ov) 3 [.null, .int 0, .int 0, .int 0] K = K ((alA A 5 np z).1 5 np) (z + 1, hv (alA A 5 np z) (z3 iv 5 np 0) (z3 rv 5 np none) ov) := fun K => (newO_hv hO hd5 (by rfl) (by decide) (by rfl)).1
  have hnew2 : ∀ {α : Type} (K : Nat → hpT → Rs α), newO (z + 1, hv (alA A 5 np z) (z3 iv 5 np 0) (z3 rv 5 np none) ov) 0 [.int 0, .int 0, .null] K = K ((alA (alA A 5 np z) 6 np (z + 1)).1 6 np) (z + 1 + 1, hv (alA (alA A 5 np z) 6 np (z + 1)) (z3 (z3 iv 5 np 0) 6 np 0) (z3 (z3 rv 5 np none) 6 np none) ov) := fun K => (newO_hv hO1 hd6' (by rfl) (by decide) (by rfl)).1
  have hnew3 : ∀ {α : Type} (K : Nat → hpT → Rs α), newI (z + 1 + 1, hv (alA (alA A 5 np z) 6 np (z + 1)) (z3 (z3 iv 5 np 0) 6 np 0) (z3 (z3 rv 5 np none) 6 np none) ov) 100 K = K ((alA (alA (alA A 5 np z) 6 np (z + 1)) 7 np (z + 1 + 1)).1 7 np) (z + 1 + 1 + 1, hv (alA (alA (alA A 5 np z) 6 np (z + 1)) 7 np (z + 1 + 1)) (z3 (z3 (z3 iv 5 np 0) 6 np 0) 7 np 0) (z3 (z3 (z3 rv 5 np none) 6 np none) 7 np none) ov) := fun K => (newI_hv hO2 hd7' (by rfl) (by rfl)).1
  rw [← a5] at hnew1
  rw [← a6] at hnew2
  generalize alA (alA (alA A 5 np z) 6 np (z + 1)) 7 np (z + 1 + 1) = A3 at hO3 a_ a5 a6 l7 l6 l5 lm ln hnew1 hnew2 hnew3
  have hI3 := hO3.1
  have hO4 : OKA A3 (u3 (u3 (u3 (z3 (z3 (z3 rv 5 np none) 6 np none) 7 np none) 6 np 2 (some (7, np))) 5 np 0 (some (6, np))) 1 0 np (some (5, np))) (z + 1 + 1 + 1) := ((hO3.ref l7).ref l6).ref l5
  refine ⟨A3, u3 (u3 (u3 (u3 (u3 (u3 (z3 (z3 (z3 iv 5 np 0) 6 np 0) 7 np 0) 6 np 0 (nI w)) 6 np 1 (nI hh)) 5 np 1 (nI s)) 5 np 2 (nI (rcM w s))) 5 np 3 (nI (rrM hh s))) 0 0 1 (nI (np + 1)), u3 (u3 (u3 (z3 (z3 (z3 rv 5 np none) 6 np none) 7 np none) 6 np 2 (some (7, np))) 5 np 0 (some (6, np))) 1 0 np (some (5, np)), ?_, hO4, ?_⟩
  · rw [cHead]
    unfold F_X7_pattern_b38
    rw [gfI_hv hA t0 (by rfl) (by decide) (by rfl), n1, if_neg (nI_pos (by omega)), gfR_hv hA t0 (by rfl) (by decide) (by rfl), w0, rfv_s, nn_s, alen_R (k := 0) hA t1 (by rfl) (by decide), show kn 1 = 6 from rfl, if_pos (nI_lt hn (by decide)), gfR_hv hA t0 (by rfl) (by decide) (by rfl), w0, rfv_s, hnew1]
    unfold F_X3_init
    rw [hnew2]
    unfold F_X0_init
    rw [hnew3, pfR_hv hI3 l6 (by rfl) (by decide) (by rfl), pf_hv hI3 l6 (by rfl) (by decide) (by rfl), pf_hv hI3 l6 (by rfl) (by decide) (by rfl), bnd_v, pfR_hv hI3 l5 (by rfl) (by decide) (by rfl), pf_hv hI3 l5 (by rfl) (by decide) (by rfl), tail_spec hI3 l5 hs5, bnd_v, nn_s, ← a_ _ _ t1, astR_hv (q := 0) hI3 (lm _ _ t1) (by rfl) (show np < 6 from hn) l5 (by rfl) (by decide), ← a_ _ _ t0, pf_hv hI3 (lm _ _ t0) (by rfl) (by decide) (by rfl), nI_1]
  · have e : ∀ T i j, T ≠ 0 ∧ T ≠ 5 ∧ T ≠ 6 ∧ T ≠ 7 → (u3 (u3 (u3 (u3 (u3 (u3 (z3 (z3 (z3 iv 5 np 0) 6 np 0) 7 np 0) 6 np 0 (nI w)) 6 np 1 (nI hh)) 5 np 1 (nI s)) 5 np 2 (nI (rcM w s))) 5 np 3 (nI (rrM hh s))) 0 0 1 (nI (np + 1))) T i j = iv T i j := by
      rintro T i j ⟨x1, x2, x3, x4⟩
      simp [u3, z3, x1, x2, x3, x4]
    have e0 : ∀ j, j ≠ 1 → (u3 (u3 (u3 (u3 (u3 (u3 (z3 (z3 (z3 iv 5 np 0) 6 np 0) 7 np 0) 6 np 0 (nI w)) 6 np 1 (nI hh)) 5 np 1 (nI s)) 5 np 2 (nI (rcM w s))) 5 np 3 (nI (rrM hh s))) 0 0 1 (nI (np + 1))) 0 0 j = iv 0 0 j := by
      intro j hj
      simp [u3, z3, hj]
    have e01 : (u3 (u3 (u3 (u3 (u3 (u3 (z3 (z3 (z3 iv 5 np 0) 6 np 0) 7 np 0) 6 np 0 (nI w)) 6 np 1 (nI hh)) 5 np 1 (nI s)) 5 np 2 (nI (rcM w s))) 5 np 3 (nI (rrM hh s))) 0 0 1 (nI (np + 1))) 0 0 1 = nI (np + 1) := by simp [u3, z3]
    have e5 : ∀ i j, i ≠ np → (u3 (u3 (u3 (u3 (u3 (u3 (z3 (z3 (z3 iv 5 np 0) 6 np 0) 7 np 0) 6 np 0 (nI w)) 6 np 1 (nI hh)) 5 np 1 (nI s)) 5 np 2 (nI (rcM w s))) 5 np 3 (nI (rrM hh s))) 0 0 1 (nI (np + 1))) 5 i j = iv 5 i j ∧ (u3 (u3 (u3 (u3 (u3 (u3 (z3 (z3 (z3 iv 5 np 0) 6 np 0) 7 np 0) 6 np 0 (nI w)) 6 np 1 (nI hh)) 5 np 1 (nI s)) 5 np 2 (nI (rcM w s))) 5 np 3 (nI (rrM hh s))) 0 0 1 (nI (np + 1))) 6 i j = iv 6 i j ∧ (u3 (u3 (u3 (u3 (u3 (u3 (z3 (z3 (z3 iv 5 np 0) 6 np 0) 7 np 0) 6 np 0 (nI w)) 6 np 1 (nI hh)) 5 np 1 (nI s)) 5 np 2 (nI (rcM w s))) 5 np 3 (nI (rrM hh s))) 0 0 1 (nI (np + 1))) 7 i j = iv 7 i j := by
      intro i j hi
      simp [u3, z3, hi]
    have e5n : (u3 (u3 (u3 (u3 (u3 (u3 (z3 (z3 (z3 iv 5 np 0) 6 np 0) 7 np 0) 6 np 0 (nI w)) 6 np 1 (nI hh)) 5 np 1 (nI s)) 5 np 2 (nI (rcM w s))) 5 np 3 (nI (rrM hh s))) 0 0 1 (nI (np + 1))) 5 np 1 = nI s ∧ (u3 (u3 (u3 (u3 (u3 (u3 (z3 (z3 (z3 iv 5 np 0) 6 np 0) 7 np 0) 6 np 0 (nI w)) 6 np 1 (nI hh)) 5 np 1 (nI s)) 5 np 2 (nI (rcM w s))) 5 np 3 (nI (rrM hh s))) 0 0 1 (nI (np + 1))) 5 np 2 = nI (rcM w s) ∧ (u3 (u3 (u3 (u3 (u3 (u3 (z3 (z3 (z3 iv 5 np 0) 6 np 0) 7 np 0) 6 np 0 (nI w)) 6 np 1 (nI hh)) 5 np 1 (nI s)) 5 np 2 (nI (rcM w s))) 5 np 3 (nI (rrM hh s))) 0 0 1 (nI (np + 1))) 5 np 3 = nI (rrM hh s) ∧ (u3 (u3 (u3 (u3 (u3 (u3 (z3 (z3 (z3 iv 5 np 0) 6 np 0) 7 np 0) 6 np 0 (nI w)) 6 np 1 (nI hh)) 5 np 1 (nI s)) 5 np 2 (nI (rcM w s))) 5 np 3 (nI (rrM hh s))) 0 0 1 (nI (np + 1))) 6 np 0 = nI w ∧ (u3 (u3 (u3 (u3 (u3 (u3 (z3 (z3 (z3 iv 5 np 0) 6 np 0) 7 np 0) 6 np 0 (nI w)) 6 np 1 (nI hh)) 5 np 1 (nI s)) 5 np 2 (nI (rcM w s))) 5 np 3 (nI (rrM hh s))) 0 0 1 (nI (np + 1))) 6 np 1 = nI hh := by simp [u3, z3]
    have e7n : ∀ j, (u3 (u3 (u3 (u3 (u3 (u3 (z3 (z3 (z3 iv 5 np 0) 6 np 0) 7 np 0) 6 np 0 (nI w)) 6 np 1 (nI hh)) 5 np 1 (nI s)) 5 np 2 (nI (rcM w s))) 5 np 3 (nI (rrM hh s))) 0 0 1 (nI (np + 1))) 7 np j = 0 := by
      intro j
      simp [u3, z3]
    have er : ∀ T i j, T ≠ 1 → T ≠ 5 → T ≠ 6 → T ≠ 7 → (u3 (u3 (u3 (z3 (z3 (z3 rv 5 np none) 6 np none) 7 np none) 6 np 2 (some (7, np))) 5 np 0 (some (6, np))) 1 0 np (some (5, np))) T i j = rv T i j := by
      intro T i j x1 x2 x3 x4
      simp [u3, z3, x1, x2, x3, x4]
    have er5 : ∀ i j, i ≠ np → (u3 (u3 (u3 (z3 (z3 (z3 rv 5 np none) 6 np none) 7 np none) 6 np 2 (some (7, np))) 5 np 0 (some (6, np))) 1 0 np (some (5, np))) 5 i j = rv 5 i j ∧ (u3 (u3 (u3 (z3 (z3 (z3 rv 5 np none) 6 np none) 7 np none) 6 np 2 (some (7, np))) 5 np 0 (some (6, np))) 1 0 np (some (5, np))) 6 i j = rv 6 i j := by
      intro i j hi
      simp [u3, z3, hi]
    have er5n : (u3 (u3 (u3 (z3 (z3 (z3 rv 5 np none) 6 np none) 7 np none) 6 np 2 (some (7, np))) 5 np 0 (some (6, np))) 1 0 np (some (5, np))) 5 np 0 = some (6, np) ∧ (u3 (u3 (u3 (z3 (z3 (z3 rv 5 np none) 6 np none) 7 np none) 6 np 2 (some (7, np))) 5 np 0 (some (6, np))) 1 0 np (some (5, np))) 6 np 2 = some (7, np) := by simp [u3, z3]
    have er1 : ∀ j, j ≠ np → (u3 (u3 (u3 (z3 (z3 (z3 rv 5 np none) 6 np none) 7 np none) 6 np 2 (some (7, np))) 5 np 0 (some (6, np))) 1 0 np (some (5, np))) 1 0 j = rv 1 0 j := by
      intro j hj
      simp [u3, z3, hj]
    have er1n : (u3 (u3 (u3 (z3 (z3 (z3 rv 5 np none) 6 np none) 7 np none) 6 np 2 (some (7, np))) 5 np 0 (some (6, np))) 1 0 np (some (5, np))) 1 0 np = some (5, np) := by simp [u3, z3]
    generalize (u3 (u3 (u3 (u3 (u3 (u3 (z3 (z3 (z3 iv 5 np 0) 6 np 0) 7 np 0) 6 np 0 (nI w)) 6 np 1 (nI hh)) 5 np 1 (nI s)) 5 np 2 (nI (rcM w s))) 5 np 3 (nI (rrM hh s))) 0 0 1 (nI (np + 1))) = iv2 at e e0 e01 e5 e5n e7n ⊢
    generalize (u3 (u3 (u3 (z3 (z3 (z3 rv 5 np none) 6 np none) 7 np none) 6 np 2 (some (7, np))) 5 np 0 (some (6, np))) 1 0 np (some (5, np))) = rv2 at hO4 er er5 er5n er1 er1n ⊢
    have hPN : PAT A3 iv2 rv2 np w hh s := ⟨l5, ⟨l6, l7, by rfl, by rfl, by rfl, er5n.2, e5n.2.2.2.1, e5n.2.2.2.2, hw1, by omega, hh1, by omega⟩, er5n.1, e5n.1, e5n.2.1, e5n.2.2.1, hw2, hh2, hs5, hsq⟩
    obtain ⟨f1, f2, f3, f4, f5, f6, f7⟩ := h
    refine ⟨⟨hI3, ⟨⟨lm _ _ t0, lm _ _ t1, lm _ _ t2, lm _ _ t3, lm _ _ t4⟩, ⟨(er _ _ _ (by decide) (by decide) (by decide) (by decide)).trans w0, (er _ _ _ (by decide) (by decide) (by decide) (by decide)).trans w1, (er _ _ _ (by decide) (by decide) (by decide) (by decide)).trans w2, (er _ _ _ (by decide) (by decide) (by decide) (by decide)).trans w3⟩, fun i hi => ?_, fun i hi => (er _ _ _ (by decide) (by decide) (by decide) (by decide)).trans (w5 i hi), fun i hi => (er _ _ _ (by decide) (by decide) (by decide) (by decide)).trans (w6 i hi), fun i hi => (er _ _ _ (by decide) (by decide) (by decide) (by decide)).trans (w7 i hi), fun i hi => ?_, fun i hi => ?_, fun i hi => (ln _ _ (by omega)).trans (d3 i hi)⟩, ⟨e01, hn, (e0 3 (by decide)).trans n4, n6, (e0 5 (by decide)).trans n7, n9⟩, fun i hi => ?_, fun i hi => (f5 i hi).to lm (er _ _ _ (by decide) (by decide) (by decide) (by decide)) (er _ _ _ (by decide) (by decide) (by decide) (by decide)) (e _ _ _ (by decide)) (e _ _ _ (by decide)) (e _ _ _ (by decide)), fun i hi => (f6 i hi).to (Nat.le_refl _) lm (er _ _ _ (by decide) (by decide) (by decide) (by decide)) (fun _ => e _ _ _ (by decide)), fun r' hr' => (f7 r' hr').to (Nat.le_refl _) lm (fun w hw q => ⟨(ln _ _ (by omega)).trans q.1, (ln _ _ (by omega)).trans q.2⟩) (fun _ => er _ _ _ (by decide) (by decide) (by decide) (by decide)) (er _ _ _ (by decide) (by decide) (by decide) (by decide)) (fun _ _ => er _ _ _ (by decide) (by decide) (by decide) (by decide)) (fun _ _ => er _ _ _ (by decide) (by decide) (by decide) (by decide)) (fun _ _ => er _ _ _ (by decide) (by decide) (by decide) (by decide)) (fun _ => e _ _ _ (by decide)) (fun _ => e _ _ _ (by decide)) (fun _ => e _ _ _ (by decide)) (fun _ _ _ => e _ _ _ (by decide)) (fun _ _ _ => e _ _ _ (by decide)) (fun _ _ => e _ _ _ (by decide)) (fun l k _ hk => ⟨k, Nat.le_refl _, (e _ _ _ (by decide)).trans hk⟩) (fun _ _ _ _ => e _ _ _ (by decide))⟩, ⟨fun T i hl => ⟨lm T i hl, a_ T i hl⟩, fun T i j hT hl => ?_, fun T i j hT hl => ?_⟩, ⟨fun i => e _ _ _ (by decide), fun i => e _ _ _ (by decide)⟩, hPN, e0 7 (by decide), fun i => ln _ _ (Or.inl (by decide))⟩
    · by_cases hin : i = np
      · subst hin
        rw [er1n, if_pos (by omega)]
      · rw [er1 i hin, w4 i hi]
        by_cases hi2 : i < np
        · rw [if_pos hi2, if_pos (by omega)]
        · rw [if_neg hi2, if_neg (by omega)]
    · obtain ⟨y1, y2, y3⟩ := d1 i (by omega)
      exact ⟨(ln _ _ (by omega)).trans y1, (ln _ _ (by omega)).trans y2, (ln _ _ (by omega)).trans y3⟩
    · obtain ⟨y1, y2, y3⟩ := d2 i hi
      exact ⟨(ln _ _ (by omega)).trans y1, (ln _ _ (by omega)).trans y2, (ln _ _ (by omega)).trans y3⟩
    · by_cases hin : i = np
      · subst hin
        exact ⟨w, hh, s, hPN, fun k => ⟨0, by decide, e7n k⟩⟩
      · exact (f4 i (by omega)).to lm (er5 _ _ hin).1 (er5 _ _ hin).2 (fun j => (e5 i j hin).1) (fun j => (e5 i j hin).2.1) ((f4 i (by omega)).col (fun j => (e5 i j hin).2.2))
    · have hne : (T = 5 ∨ T = 6) → i ≠ np := fun q w => by
        subst w
        rcases q with rfl | rfl
        · rw [hd5] at hl; cases hl
        · rw [hd6] at hl; cases hl
      rcases hT with rfl | rfl | rfl | rfl | rfl
      · exact (e5 _ _ (hne (Or.inl rfl))).1
      · exact (e5 _ _ (hne (Or.inr rfl))).2.1
      · exact e _ _ _ (by decide)
      · exact e _ _ _ (by decide)
      · exact e _ _ _ (by decide)
    · have hne : i ≠ np := fun w => by
        subst w
        rcases hT with rfl | rfl
        · rw [hd5] at hl; cases hl
        · rw [hd6] at hl; cases hl
      rcases hT with rfl | rfl
      · exact (er5 _ _ hne).1
      · exact (er5 _ _ hne).2
theorem k_pattern_w {v1 v2 v3 : Int32} {hp : hpT} {a : Nat} (hrg : ¬ ((inR v1 1 5 ∧ inR v2 1 5 ∧ inR v3 0 5) ∧ (v3 = 5 → v1 = v2))) : F_X7_pattern a v1 v2 v3 hp = tht IA hp := by
  unfold F_X7_pattern
  by_cases q1 : inR v1 1 5
  · rw [req_in q1, bnd_v]
    by_cases q2 : inR v2 1 5
    · rw [req_in q2, bnd_v]
      by_cases q3 : inR v3 0 5
      · rw [req_in q3, bnd_v]
        by_cases q : v3 = 5
        · rw [if_pos q]
          by_cases q5 : v1 = v2
          · exact absurd ⟨⟨q1, q2, q3⟩, fun _ => q5⟩ hrg
          · rw [if_neg q5]
        · exact absurd ⟨⟨q1, q2, q3⟩, fun q5 => absurd q5 q⟩ hrg
      · rw [req_out q3, bnd_t]
    · rw [req_out q2, bnd_t]
  · rw [req_out q1, bnd_t]
end PN
