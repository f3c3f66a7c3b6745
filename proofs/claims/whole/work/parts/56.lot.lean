/-! lot -/
section LO
variable {A : Adr} {iv : IVt} {rv : RVt} {ov : Nat → Int64} {z np nr nl : Nat}
theorem oka_of (hA : IN A) (hF : RFA A rv) (hz : ∀ a e, hv A iv rv ov a = some e → a < z) : OKA A rv z := ⟨hA, fun T i hl => hz _ _ (hv_at hA hl), hF⟩
theorem OKA.al {T i : Nat} (hA : OKA A rv z) (hn : A.2.2 T i = false) : OKA (alA A T i z) (z3 rv T i none) (z + 1) := (hpush_hv (iv := fun _ _ _ => 0) (ov := fun _ => 0) (iv' := fun _ _ _ => 0) (rv' := z3 rv T i none) (e := cont (alA A T i z).1 (fun _ _ _ => 0) (z3 rv T i none) (fun _ => 0) T i) hA hn rfl (fun _ _ _ => rfl) (fun T' i' q => z3_row q) (fun j => z3_s)).2
theorem MD.to {A' : Adr} {rv' : RVt} (h : MD A rv) (hI : IN A') (hl : ∀ T i, A.2.2 T i = true → A'.2.2 T i = true) (hr : ∀ j, rv' 20 0 j = rv 20 0 j) : MD A' rv' := ⟨hI, hl _ _ h.2.1, fun p hp => ⟨(hr _).trans (h.2.2 p hp).1, hl _ _ (h.2.2 p hp).2⟩⟩
theorem mlot_spec {v1 v2 v3 v4 : Int32} (hM : MD A rv) (h10 : iv 20 0 10 = nI nl) (hn : nl < 10) : F_X8_lot_b81 (A.1 20 0) v1 v2 v3 v4 0 (A.1 20 0) (z, hv A iv rv ov) = rtv (nI nl) (z, hv A (u3 (u3 (u3 (u3 (u3 (u3 iv 20 0 0 0) 20 0 10 (nI (nl + 1))) 28 0 nl v1) 29 0 nl v2) 30 0 nl v3) 31 0 nl v4) rv ov) := by
  unfold F_X8_lot_b81
  rw [mO hM, ref0 hM, bnd_v, if_pos rfl, mI10 hM, u3_n (by omega), h10, mI10 hM, u3_n (by omega), h10, nI_1, mP10 hM, mR11 hM, nn_s, mS11 hM hn, mR12 hM, nn_s, mS12 hM hn, mR13 hM, nn_s, mS13 hM hn, mR14 hM, nn_s, mS14 hM hn]
theorem sc6 {v1 v2 v3 v4 : Int32} (h : INV A iv rv np nr nl) (hF : RFA A rv) (hz : ∀ a e, hv A iv rv ov a = some e → a < z) : OP A cs_L_lot (F_X7_lot (A.1 0 0) v1 v2 v3 v4 (z, hv A iv rv ov)) (F_X8_lot (A.1 20 0) v1 v2 v3 v4) := by
  have hM := h.1
  have hA := hM.1
  obtain ⟨⟨t0, t1, t2, t3, t4⟩, ⟨w0, w1, w2, w3⟩, w4, w5, w6, w7, d1, d2, d3, t18, o18⟩ := id h.2.1
  obtain ⟨n1, n2, n3, c1, c2, c3, c4, c5, c6, c7, c8⟩ := id h.2.2.1
  have mbad : ∀ (z1 : Nat) (k : Nat), k = 1 ∨ k = 2 ∨ k = 3 → F_X8_lot_b81 (A.1 20 0) v1 v2 v3 v4 (nI k) (A.1 20 0) (z1, hv A iv rv ov) = rtv 0 (z1, hv A (u3 iv 20 0 0 (nI k)) rv ov) := by
    intro z1 k hk
    unfold F_X8_lot_b81
    rw [mO hM, refused_spec hM (by omega), bnd_v]
    rcases hk with rfl | rfl | rfl <;> rfl
  have mout : ∀ (z1 : Nat), ¬ (inR v2 0 9 ∧ inR v3 1 20 ∧ inR v4 1 200) → F_X8_lot (A.1 20 0) v1 v2 v3 v4 (z1, hv A iv rv ov) = F_X8_lot_b36 (A.1 20 0) v1 v2 v3 v4 (z1, hv A iv rv ov) := by
    intro z1 hrg
    unfold F_X8_lot
    by_cases q2 : inR v2 0 9
    · rw [is_in q2, bnd_v, if_neg (by decide)]
      by_cases q3 : inR v3 1 20
      · rw [is_in q3, bnd_v, if_neg (by decide)]
        by_cases q4 : inR v4 1 200
        · exact absurd ⟨q2, q3, q4⟩ hrg
        · rw [is_out q4, bnd_v, if_pos rfl]
      · rw [is_out q3, bnd_v, if_pos rfl]
    · rw [is_out q2, bnd_v, if_pos rfl]
  by_cases hx : ∃ j, j < nr ∧ v1 = nI j
  · have hx' := hx
    obtain ⟨q, hq, rfl⟩ := hx
    obtain ⟨p, w, hh, s, rd, r1, r2, r3, r4, r5, r6, r7, r8, r9, r10, r11, r12⟩ := h.2.2.2.2.1 q hq
    by_cases hrg : inR v2 0 9 ∧ inR v3 1 20 ∧ inR v4 1 200
    · obtain ⟨hv2, hv3, hv4⟩ := hrg
      by_cases hn : nl < 10
      · obtain ⟨k, rfl, hk1, hk2⟩ := rg_of (a := 1) (b := 20) (by decide) (by decide) hv3
        obtain ⟨L, rfl, hL1, hL2⟩ := rg_of (a := 1) (b := 200) (by decide) (by decide) hv4
        have hO := oka_of hA hF hz
        have hd := d3 nl (Nat.le_refl _)
        have hO1 := hO.al hd
        have a8 : (alA A 11 nl z).1 8 q = A.1 8 q := alA_n (by omega)
        have a3 : (alA A 11 nl z).1 3 0 = A.1 3 0 := alA_n (by omega)
        have a0 : (alA A 11 nl z).1 0 0 = A.1 0 0 := alA_n (by omega)
        have a20 : (alA A 11 nl z).1 20 0 = A.1 20 0 := alA_n (by omega)
        have a18 : (alA A 11 nl z).1 18 0 = A.1 18 0 := alA_n (by omega)
        have l11 : (alA A 11 nl z).2.2 11 nl = true := alA_l
        have lm : ∀ T i, A.2.2 T i = true → (alA A 11 nl z).2.2 T i = true := fun T i => alA_lt
        have ln : ∀ T i, T ≠ 11 → (alA A 11 nl z).2.2 T i = A.2.2 T i := fun T i hT => alA_ln (by omega)
        have ln2 : ∀ i, i ≠ nl → (alA A 11 nl z).2.2 11 i = A.2.2 11 i := fun i hT => alA_ln (by omega)
        have hnew : ∀ {α : Type} (K : Nat → hpT → Rs α), newO (z, hv A iv rv ov) 1 [.null, .int 0, .int 0, .int 0, .int 0] K = K ((alA A 11 nl z).1 11 nl) (z + 1, hv (alA A 11 nl z) (z3 iv 11 nl 0) (z3 rv 11 nl none) ov) := fun K => (newO_hv hO hd (by rfl) (by decide) (by rfl)).1
        generalize alA A 11 nl z = A1 at hO1 a8 a3 a0 a20 a18 l11 lm ln ln2 hnew
        have hI1 := hO1.1
        have hF1 : RFA A1 (u3 (u3 (z3 rv 11 nl none) 11 nl 0 (some (8, q))) 3 0 nl (some (11, nl))) := by
          have f1 : RFA A1 (z3 rv 11 nl none) := hO1.2.2
          exact (f1.ref (lm _ _ r5)).ref l11
        have hM1 : MD A1 (u3 (u3 (z3 rv 11 nl none) 11 nl 0 (some (8, q))) 3 0 nl (some (11, nl))) := hM.to hI1 lm (fun j => by rw [u3_T (by decide), u3_T (by decide), z3_n (by omega)])
        refine fin_ok (x := nI nl) (A := A1) (iv1 := u3 (u3 (u3 (u3 (u3 (z3 iv 11 nl 0) 11 nl 1 (nI q)) 11 nl 2 v2) 11 nl 4 (nI k)) 11 nl 3 (nI L)) 0 0 5 (nI (nl + 1)))
            (iv2 := u3 (u3 (u3 (u3 (u3 (u3 (u3 (u3 (u3 (u3 (u3 (z3 iv 11 nl 0) 11 nl 1 (nI q)) 11 nl 2 v2) 11 nl 4 (nI k)) 11 nl 3 (nI L)) 0 0 5 (nI (nl + 1))) 20 0 0 0) 20 0 10 (nI (nl + 1))) 28 0 nl (nI q)) 29 0 nl v2) 30 0 nl (nI k)) 31 0 nl (nI L))
            (rv := u3 (u3 (z3 rv 11 nl none) 11 nl 0 (some (8, q))) 3 0 nl (some (11, nl))) (ov := ov) (z := z + 1) (np := np) (nr := nr) (nl := nl + 1) ?_ (fun z1 ov' => ?_) ?_ hF1 a0 a20 a18 ?_
        · unfold F_X7_lot
          rw [isO_hv hA t0 (by rfl) (by decide), rolAt_in h hq, bnd_v, req_in hv2, bnd_v, req_in hv3, bnd_v, req_in hv4, bnd_v, gfI_hv hA t0 (by rfl) (by decide) (by rfl), c4, if_neg (nI_pos (by omega)), gfR_hv hA t0 (by rfl) (by decide) (by rfl), w2, rfv_s, nn_s, alen_R (k := 2) hA t3 (by rfl) (by decide), show kn 3 = 10 from rfl, if_pos (nI_lt hn (by decide)), gfR_hv hA t0 (by rfl) (by decide) (by rfl), w2, rfv_s, hnew]
          unfold F_X1_init
          rw [← a8, pfR_hv hI1 l11 (by rfl) (by decide) (by rfl), pf_hv hI1 l11 (by rfl) (by decide) (by rfl), pf_hv hI1 l11 (by rfl) (by decide) (by rfl), pf_hv hI1 l11 (by rfl) (by decide) (by rfl), pf_hv hI1 l11 (by rfl) (by decide) (by rfl), bnd_v, nn_s, ← a3, astR_hv (q := 2) hI1 (lm _ _ t3) (by rfl) (show nl < 10 from hn) l11 (by rfl) (by decide), ← a0, pf_hv hI1 (lm _ _ t0) (by rfl) (by decide) (by rfl), nI_1]
        · have e10 : u3 (u3 (u3 (u3 (u3 (z3 iv 11 nl 0) 11 nl 1 (nI q)) 11 nl 2 v2) 11 nl 4 (nI k)) 11 nl 3 (nI L)) 0 0 5 (nI (nl + 1)) 20 0 10 = nI nl := by
            simp [u3, z3]
            exact c5
          have e6 : u3 (u3 (u3 (u3 (u3 (z3 iv 11 nl 0) 11 nl 1 (nI q)) 11 nl 2 v2) 11 nl 4 (nI k)) 11 nl 3 (nI L)) 0 0 5 (nI (nl + 1)) 20 0 6 = nI nr := by
            simp [u3, z3]
            exact c2
          generalize u3 (u3 (u3 (u3 (u3 (z3 iv 11 nl 0) 11 nl 1 (nI q)) 11 nl 2 v2) 11 nl 4 (nI k)) 11 nl 3 (nI L)) 0 0 5 (nI (nl + 1)) = iv1 at e10 e6 ⊢
          unfold F_X8_lot
          rw [is_in hv2, bnd_v, if_neg (by decide), is_in hv3, bnd_v, if_neg (by decide), is_in hv4, bnd_v, if_neg (by decide)]
          unfold F_X8_lot_b37
          rw [← a20, mI6 hM1, e6, (is_ix (by omega)).1 hx', bnd_v, if_neg (by decide), if_neg (by decide), mI10 hM1, e10, if_neg (show ¬ nI nl = 10 from fun q => by have := nI_inj (b := 10) (by omega) (by omega) q; omega), mlot_spec hM1 e10 hn]
        · simp [u3]
        · have e : ∀ T i j, T ≠ 0 ∧ T ≠ 11 ∧ T ≠ 20 ∧ T ≠ 28 ∧ T ≠ 29 ∧ T ≠ 30 ∧ T ≠ 31 → (u3 (u3 (u3 (u3 (u3 (u3 (u3 (u3 (u3 (u3 (u3 (z3 iv 11 nl 0) 11 nl 1 (nI q)) 11 nl 2 v2) 11 nl 4 (nI k)) 11 nl 3 (nI L)) 0 0 5 (nI (nl + 1))) 20 0 0 0) 20 0 10 (nI (nl + 1))) 28 0 nl (nI q)) 29 0 nl v2) 30 0 nl (nI k)) 31 0 nl (nI L)) T i j = iv T i j := by
            rintro T i j ⟨x1, x2, x3, x4, x5, x6, x7⟩
            simp [u3, z3, x1, x2, x3, x4, x5, x6, x7]
          have e0 : ∀ j, j ≠ 5 → (u3 (u3 (u3 (u3 (u3 (u3 (u3 (u3 (u3 (u3 (u3 (z3 iv 11 nl 0) 11 nl 1 (nI q)) 11 nl 2 v2) 11 nl 4 (nI k)) 11 nl 3 (nI L)) 0 0 5 (nI (nl + 1))) 20 0 0 0) 20 0 10 (nI (nl + 1))) 28 0 nl (nI q)) 29 0 nl v2) 30 0 nl (nI k)) 31 0 nl (nI L)) 0 0 j = iv 0 0 j := by
            intro j hj
            simp [u3, z3, hj]
          have e05 : (u3 (u3 (u3 (u3 (u3 (u3 (u3 (u3 (u3 (u3 (u3 (z3 iv 11 nl 0) 11 nl 1 (nI q)) 11 nl 2 v2) 11 nl 4 (nI k)) 11 nl 3 (nI L)) 0 0 5 (nI (nl + 1))) 20 0 0 0) 20 0 10 (nI (nl + 1))) 28 0 nl (nI q)) 29 0 nl v2) 30 0 nl (nI k)) 31 0 nl (nI L)) 0 0 5 = nI (nl + 1) := by simp [u3, z3]
          have e20 : ∀ j, j ≠ 0 → j ≠ 10 → (u3 (u3 (u3 (u3 (u3 (u3 (u3 (u3 (u3 (u3 (u3 (z3 iv 11 nl 0) 11 nl 1 (nI q)) 11 nl 2 v2) 11 nl 4 (nI k)) 11 nl 3 (nI L)) 0 0 5 (nI (nl + 1))) 20 0 0 0) 20 0 10 (nI (nl + 1))) 28 0 nl (nI q)) 29 0 nl v2) 30 0 nl (nI k)) 31 0 nl (nI L)) 20 0 j = iv 20 0 j := by
            intro j hj hj2
            simp [u3, z3, hj, hj2]
          have e2010 : (u3 (u3 (u3 (u3 (u3 (u3 (u3 (u3 (u3 (u3 (u3 (z3 iv 11 nl 0) 11 nl 1 (nI q)) 11 nl 2 v2) 11 nl 4 (nI k)) 11 nl 3 (nI L)) 0 0 5 (nI (nl + 1))) 20 0 0 0) 20 0 10 (nI (nl + 1))) 28 0 nl (nI q)) 29 0 nl v2) 30 0 nl (nI k)) 31 0 nl (nI L)) 20 0 10 = nI (nl + 1) := by simp [u3, z3]
          have e11 : ∀ i j, i ≠ nl → (u3 (u3 (u3 (u3 (u3 (u3 (u3 (u3 (u3 (u3 (u3 (z3 iv 11 nl 0) 11 nl 1 (nI q)) 11 nl 2 v2) 11 nl 4 (nI k)) 11 nl 3 (nI L)) 0 0 5 (nI (nl + 1))) 20 0 0 0) 20 0 10 (nI (nl + 1))) 28 0 nl (nI q)) 29 0 nl v2) 30 0 nl (nI k)) 31 0 nl (nI L)) 11 i j = iv 11 i j := by
            intro i j hi
            simp [u3, z3, hi]
          have e111 : (u3 (u3 (u3 (u3 (u3 (u3 (u3 (u3 (u3 (u3 (u3 (z3 iv 11 nl 0) 11 nl 1 (nI q)) 11 nl 2 v2) 11 nl 4 (nI k)) 11 nl 3 (nI L)) 0 0 5 (nI (nl + 1))) 20 0 0 0) 20 0 10 (nI (nl + 1))) 28 0 nl (nI q)) 29 0 nl v2) 30 0 nl (nI k)) 31 0 nl (nI L)) 11 nl 1 = nI q := by simp [u3, z3]
          have e112 : (u3 (u3 (u3 (u3 (u3 (u3 (u3 (u3 (u3 (u3 (u3 (z3 iv 11 nl 0) 11 nl 1 (nI q)) 11 nl 2 v2) 11 nl 4 (nI k)) 11 nl 3 (nI L)) 0 0 5 (nI (nl + 1))) 20 0 0 0) 20 0 10 (nI (nl + 1))) 28 0 nl (nI q)) 29 0 nl v2) 30 0 nl (nI k)) 31 0 nl (nI L)) 11 nl 2 = v2 := by simp [u3, z3]
          have e113 : (u3 (u3 (u3 (u3 (u3 (u3 (u3 (u3 (u3 (u3 (u3 (z3 iv 11 nl 0) 11 nl 1 (nI q)) 11 nl 2 v2) 11 nl 4 (nI k)) 11 nl 3 (nI L)) 0 0 5 (nI (nl + 1))) 20 0 0 0) 20 0 10 (nI (nl + 1))) 28 0 nl (nI q)) 29 0 nl v2) 30 0 nl (nI k)) 31 0 nl (nI L)) 11 nl 3 = nI L := by simp [u3, z3]
          have e114 : (u3 (u3 (u3 (u3 (u3 (u3 (u3 (u3 (u3 (u3 (u3 (z3 iv 11 nl 0) 11 nl 1 (nI q)) 11 nl 2 v2) 11 nl 4 (nI k)) 11 nl 3 (nI L)) 0 0 5 (nI (nl + 1))) 20 0 0 0) 20 0 10 (nI (nl + 1))) 28 0 nl (nI q)) 29 0 nl v2) 30 0 nl (nI k)) 31 0 nl (nI L)) 11 nl 4 = nI k := by simp [u3, z3]
          have e28 : ∀ i, i ≠ nl → (u3 (u3 (u3 (u3 (u3 (u3 (u3 (u3 (u3 (u3 (u3 (z3 iv 11 nl 0) 11 nl 1 (nI q)) 11 nl 2 v2) 11 nl 4 (nI k)) 11 nl 3 (nI L)) 0 0 5 (nI (nl + 1))) 20 0 0 0) 20 0 10 (nI (nl + 1))) 28 0 nl (nI q)) 29 0 nl v2) 30 0 nl (nI k)) 31 0 nl (nI L)) 28 0 i = iv 28 0 i ∧ (u3 (u3 (u3 (u3 (u3 (u3 (u3 (u3 (u3 (u3 (u3 (z3 iv 11 nl 0) 11 nl 1 (nI q)) 11 nl 2 v2) 11 nl 4 (nI k)) 11 nl 3 (nI L)) 0 0 5 (nI (nl + 1))) 20 0 0 0) 20 0 10 (nI (nl + 1))) 28 0 nl (nI q)) 29 0 nl v2) 30 0 nl (nI k)) 31 0 nl (nI L)) 29 0 i = iv 29 0 i ∧ (u3 (u3 (u3 (u3 (u3 (u3 (u3 (u3 (u3 (u3 (u3 (z3 iv 11 nl 0) 11 nl 1 (nI q)) 11 nl 2 v2) 11 nl 4 (nI k)) 11 nl 3 (nI L)) 0 0 5 (nI (nl + 1))) 20 0 0 0) 20 0 10 (nI (nl + 1))) 28 0 nl (nI q)) 29 0 nl v2) 30 0 nl (nI k)) 31 0 nl (nI L)) 30 0 i = iv 30 0 i ∧ (u3 (u3 (u3 (u3 (u3 (u3 (u3 (u3 (u3 (u3 (u3 (z3 iv 11 nl 0) 11 nl 1 (nI q)) 11 nl 2 v2) 11 nl 4 (nI k)) 11 nl 3 (nI L)) 0 0 5 (nI (nl + 1))) 20 0 0 0) 20 0 10 (nI (nl + 1))) 28 0 nl (nI q)) 29 0 nl v2) 30 0 nl (nI k)) 31 0 nl (nI L)) 31 0 i = iv 31 0 i := by
            intro i hi
            simp [u3, z3, hi]
          have e28n : (u3 (u3 (u3 (u3 (u3 (u3 (u3 (u3 (u3 (u3 (u3 (z3 iv 11 nl 0) 11 nl 1 (nI q)) 11 nl 2 v2) 11 nl 4 (nI k)) 11 nl 3 (nI L)) 0 0 5 (nI (nl + 1))) 20 0 0 0) 20 0 10 (nI (nl + 1))) 28 0 nl (nI q)) 29 0 nl v2) 30 0 nl (nI k)) 31 0 nl (nI L)) 28 0 nl = nI q ∧ (u3 (u3 (u3 (u3 (u3 (u3 (u3 (u3 (u3 (u3 (u3 (z3 iv 11 nl 0) 11 nl 1 (nI q)) 11 nl 2 v2) 11 nl 4 (nI k)) 11 nl 3 (nI L)) 0 0 5 (nI (nl + 1))) 20 0 0 0) 20 0 10 (nI (nl + 1))) 28 0 nl (nI q)) 29 0 nl v2) 30 0 nl (nI k)) 31 0 nl (nI L)) 29 0 nl = v2 ∧ (u3 (u3 (u3 (u3 (u3 (u3 (u3 (u3 (u3 (u3 (u3 (z3 iv 11 nl 0) 11 nl 1 (nI q)) 11 nl 2 v2) 11 nl 4 (nI k)) 11 nl 3 (nI L)) 0 0 5 (nI (nl + 1))) 20 0 0 0) 20 0 10 (nI (nl + 1))) 28 0 nl (nI q)) 29 0 nl v2) 30 0 nl (nI k)) 31 0 nl (nI L)) 30 0 nl = nI k ∧ (u3 (u3 (u3 (u3 (u3 (u3 (u3 (u3 (u3 (u3 (u3 (z3 iv 11 nl 0) 11 nl 1 (nI q)) 11 nl 2 v2) 11 nl 4 (nI k)) 11 nl 3 (nI L)) 0 0 5 (nI (nl + 1))) 20 0 0 0) 20 0 10 (nI (nl + 1))) 28 0 nl (nI q)) 29 0 nl v2) 30 0 nl (nI k)) 31 0 nl (nI L)) 31 0 nl = nI L := by simp [u3, z3]
          have er : ∀ T i j, T ≠ 11 → T ≠ 3 → (u3 (u3 (z3 rv 11 nl none) 11 nl 0 (some (8, q))) 3 0 nl (some (11, nl))) T i j = rv T i j := by
            intro T i j x1 x2
            simp [u3, z3, x1, x2]
          have er11 : ∀ i j, i ≠ nl → (u3 (u3 (z3 rv 11 nl none) 11 nl 0 (some (8, q))) 3 0 nl (some (11, nl))) 11 i j = rv 11 i j := by
            intro i j hi
            simp [u3, z3, hi]
          have er11n : (u3 (u3 (z3 rv 11 nl none) 11 nl 0 (some (8, q))) 3 0 nl (some (11, nl))) 11 nl 0 = some (8, q) := by simp [u3, z3]
          have er3 : ∀ j, j ≠ nl → (u3 (u3 (z3 rv 11 nl none) 11 nl 0 (some (8, q))) 3 0 nl (some (11, nl))) 3 0 j = rv 3 0 j := by
            intro j hj
            simp [u3, z3, hj]
          have er3n : (u3 (u3 (z3 rv 11 nl none) 11 nl 0 (some (8, q))) 3 0 nl (some (11, nl))) 3 0 nl = some (11, nl) := by simp [u3, z3]
          generalize (u3 (u3 (u3 (u3 (u3 (u3 (u3 (u3 (u3 (u3 (u3 (z3 iv 11 nl 0) 11 nl 1 (nI q)) 11 nl 2 v2) 11 nl 4 (nI k)) 11 nl 3 (nI L)) 0 0 5 (nI (nl + 1))) 20 0 0 0) 20 0 10 (nI (nl + 1))) 28 0 nl (nI q)) 29 0 nl v2) 30 0 nl (nI k)) 31 0 nl (nI L)) = iv2 at e e0 e05 e20 e2010 e11 e111 e112 e113 e114 e28 e28n ⊢
          generalize (u3 (u3 (z3 rv 11 nl none) 11 nl 0 (some (8, q))) 3 0 nl (some (11, nl))) = rv2 at hF1 hM1 er er11 er11n er3 er3n ⊢
          obtain ⟨g1, g2, g3, g4, g5, g6, g7⟩ := h
          refine ⟨hM1, ⟨⟨lm _ _ t0, lm _ _ t1, lm _ _ t2, lm _ _ t3, lm _ _ t4⟩, ⟨(er _ _ _ (by decide) (by decide)).trans w0, (er _ _ _ (by decide) (by decide)).trans w1, (er _ _ _ (by decide) (by decide)).trans w2, (er _ _ _ (by decide) (by decide)).trans w3⟩, fun i hi => (er _ _ _ (by decide) (by decide)).trans (w4 i hi), fun i hi => (er _ _ _ (by decide) (by decide)).trans (w5 i hi), fun i hi => ?_, fun i hi => (er _ _ _ (by decide) (by decide)).trans (w7 i hi), fun i hi => ?_, fun i hi => ?_, fun i hi => ?_, lm _ _ t18, fun i hi => o18 i (by rw [← ln 18 i (by decide)]; exact hi)⟩, ⟨(e0 1 (by decide)).trans n1, (e20 1 (by decide) (by decide)).trans n2, n3, (e0 3 (by decide)).trans c1, (e20 6 (by decide) (by decide)).trans c2, c3, e05, e2010, hn, by rw [e20 28 (by decide) (by decide), e0 7 (by decide), c7], fun k hk => (e _ _ _ (by decide)).trans (c8 k hk)⟩, fun i hi => (g4 i hi).to lm (er _ _ _ (by decide) (by decide)) (er _ _ _ (by decide) (by decide)) ?_ ?_ ?_ ?_ ?_ ?_ ?_, fun i hi => (g5 i hi).to (Nat.le_refl _) lm (er _ _ _ (by decide) (by decide)) (er _ _ _ (by decide) (by decide)) ?_ ?_ ?_ ?_ ?_ ?_ ?_ ?_ ?_ ?_, fun i hi => ?_, fun r' hr' => (g7 r' hr').to (Nat.le_succ _) lm (fun w _ hw => ⟨(ln _ _ (by decide)).trans hw.1, (ln _ _ (by decide)).trans hw.2⟩) (fun _ => er _ _ _ (by decide) (by decide)) (er _ _ _ (by decide) (by decide)) (fun _ _ => er _ _ _ (by decide) (by decide)) (fun _ _ => er _ _ _ (by decide) (by decide)) (fun l hl => er11 _ _ (by omega)) ?_ ?_ ?_ ?_ ?_ ?_ ?_ ?_ ?_ ?_ ?_ ?_ ?_ ?_ (fun l hl => e11 _ _ (by omega)) (fun l k hl hk => ⟨k, Nat.le_refl _, (e11 _ _ (by omega)).trans hk⟩) ?_⟩
          · by_cases hin : i = nl
            · subst hin
              rw [er3n, if_pos (by omega)]
            · rw [er3 i hin, w6 i hi]
              by_cases hi2 : i < nl
              · rw [if_pos hi2, if_pos (by omega)]
              · rw [if_neg hi2, if_neg (by omega)]
          · obtain ⟨y1, y2, y3⟩ := d1 i hi
            exact ⟨(ln _ _ (by decide)).trans y1, (ln _ _ (by decide)).trans y2, (ln _ _ (by decide)).trans y3⟩
          · obtain ⟨y1, y2, y3⟩ := d2 i hi
            exact ⟨(ln _ _ (by decide)).trans y1, (ln _ _ (by decide)).trans y2, (ln _ _ (by decide)).trans y3⟩
          · exact (ln2 i (by omega)).trans (d3 i (by omega))
          rotate_left 17
          · by_cases hin : i = nl
            · subst hin
              exact ⟨q, k, L, hq, hn, l11, er11n, e111, e28n.1, e28n.2.1.trans e112.symm, e114, e28n.2.2.1, hk2, e113, e28n.2.2.2, hL1, hL2⟩
            · exact (g6 i (by omega)).to (Nat.le_refl _) lm (er11 _ _ hin) (fun _ => e11 _ _ hin) (e28 i hin).1 (e28 i hin).2.1 (e28 i hin).2.2.1 (e28 i hin).2.2.2
          all_goals intros
          all_goals exact e _ _ _ (by decide)
      · refine op_ref (z := z) (ov := ov) (k := 3) (b := 0) h hF ?_ (fun _ => wc3 (by decide) (by decide)) (by decide) (fun z1 => ?_)
        · unfold F_X7_lot F_X7_lot_b51
          rw [isO_hv hA t0 (by rfl) (by decide), rolAt_in h hq, bnd_v, req_in hv2, bnd_v, req_in hv3, bnd_v, req_in hv4, bnd_v, gfI_hv hA t0 (by rfl) (by decide) (by rfl), c4, if_neg (nI_pos (by omega)), gfR_hv hA t0 (by rfl) (by decide) (by rfl), w2, rfv_s, nn_s, alen_R (k := 2) hA t3 (by rfl) (by decide), show kn 3 = 10 from rfl, if_neg (nI_nlt (by omega) (by omega))]
        · unfold F_X8_lot
          rw [is_in hv2, bnd_v, if_neg (by decide), is_in hv3, bnd_v, if_neg (by decide), is_in hv4, bnd_v, if_neg (by decide)]
          unfold F_X8_lot_b37
          rw [mI6 hM, c2, (is_ix (by omega)).1 hx', bnd_v, if_neg (by decide), if_neg (by decide), mI10 hM, c5, if_pos (show nI nl = 10 by rw [show nl = 10 by omega]; rfl)]
          exact mbad z1 3 (by omega)
    · refine op_ref (z := z) (ov := ov) (k := 2) (b := 0) h hF ?_ (fun _ => wc2 (by decide)) (by decide) (fun z1 => ?_)
      · unfold F_X7_lot
        rw [isO_hv hA t0 (by rfl) (by decide), rolAt_in h hq, bnd_v]
        by_cases q2 : inR v2 0 9
        · rw [req_in q2, bnd_v]
          by_cases q3 : inR v3 1 20
          · rw [req_in q3, bnd_v]
            by_cases q4 : inR v4 1 200
            · exact absurd ⟨q2, q3, q4⟩ hrg
            · rw [req_out q4, bnd_t]
          · rw [req_out q3, bnd_t]
        · rw [req_out q2, bnd_t]
      · rw [mout z1 hrg]
        unfold F_X8_lot_b36 F_X8_lot_b37
        rw [mI6 hM, c2, (is_ix (by omega)).1 hx', bnd_v, if_neg (by decide), if_pos rfl]
        exact mbad z1 2 (by omega)
  · refine op_ref (z := z) (ov := ov) (k := 1) (b := 0) h hF ?_ (fun _ => wc1) (by decide) (fun z1 => ?_)
    · unfold F_X7_lot
      rw [isO_hv hA t0 (by rfl) (by decide), rolAt_out h hx, bnd_t]
    · by_cases hrg : inR v2 0 9 ∧ inR v3 1 20 ∧ inR v4 1 200
      · unfold F_X8_lot
        rw [is_in hrg.1, bnd_v, if_neg (by decide), is_in hrg.2.1, bnd_v, if_neg (by decide), is_in hrg.2.2, bnd_v, if_neg (by decide)]
        unfold F_X8_lot_b37
        rw [mI6 hM, c2, (is_ix (by omega)).2 hx, bnd_v, if_pos rfl]
        exact mbad z1 1 (by omega)
      · rw [mout z1 hrg]
        unfold F_X8_lot_b36 F_X8_lot_b37
        rw [mI6 hM, c2, (is_ix (by omega)).2 hx, bnd_v, if_pos rfl]
        exact mbad z1 1 (by omega)
end LO
