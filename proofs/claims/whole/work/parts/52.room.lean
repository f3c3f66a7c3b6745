/-! room: its sums -/
def isum (f : Nat → Int32) : Nat → Int32
  | 0 => 0
  | k + 1 => isum f k + f k
theorem isum_congr {f g : Nat → Int32} : ∀ n, (∀ w, w < n → f w = g w) → isum f n = isum g n
  | 0, _ => rfl
  | n + 1, h => by
    unfold isum
    rw [isum_congr n (fun w hw => h w (by omega)), h n (by omega)]
section RM
variable {A : Adr} {iv : IVt} {rv : RVt} {ov : Nat → Int64} {z np nr nl r n : Nat}
theorem drops13 (hA : IN A) (h13 : A.2.2 13 r = true) (hn : n ≤ 4) (hw : ∀ w, w < 4 → rv 13 r w = if w < n then some (16, 4 * r + w) else none) (hl : ∀ w, w < n → A.2.2 16 (4 * r + w) = true) : ∀ m j, j ≤ 4 → 4 < j + m → F_X5_allDrops_b13 m (isum (fun w => iv 16 (4 * r + w) 2) (min j n)) (some (A.1 13 r)) (nI 4) (nI j) (z, hv A iv rv ov) = rtv (isum (fun w => iv 16 (4 * r + w) 2) n) (z, hv A iv rv ov) := by
  intro m
  induction m with
  | zero => intro j a b; omega
  | succ m ih =>
    intro j hj hm
    unfold F_X5_allDrops_b13
    by_cases q : 4 ≤ j
    · rw [if_pos (nI_le q (by omega)), show min j n = n by omega]
    · rw [if_neg (nI_ge (by omega) (by omega)), nn_s, aldR_hv (q := 4) hA h13 (by rfl) (show j < 4 by omega), hw j (by omega)]
      unfold F_X5_allDrops_b40
      have i := ih (j + 1) (by omega) (by omega)
      by_cases g : j < n
      · rw [if_pos g, rfv_s, nlc_s, gfI_hv hA (hl j g) (by rfl) (by decide) (by rfl), nI_1]
        rw [show min (j + 1) n = j + 1 by omega] at i
        rw [show min j n = j by omega]
        exact i
      · rw [if_neg g, rfv_n, nlc_n, Int32.add_zero, nI_1]
        rw [show min (j + 1) n = n by omega] at i
        rw [show min j n = n by omega]
        exact i
theorem drops_spec (hA : IN A) (h12 : A.2.2 12 r = true) (h13 : A.2.2 13 r = true) (hr : rv 12 r 0 = some (13, r)) (hn : n ≤ 4) (hw : ∀ w, w < 4 → rv 13 r w = if w < n then some (16, 4 * r + w) else none) (hl : ∀ w, w < n → A.2.2 16 (4 * r + w) = true) : F_X5_allDrops (A.1 12 r) (z, hv A iv rv ov) = rtv (isum (fun w => iv 16 (4 * r + w) 2) n) (z, hv A iv rv ov) := by
  unfold F_X5_allDrops
  rw [gfR_hv hA h12 (by rfl) (by decide) (by rfl), hr, rfv_s, nn_s, alen_R (k := 4) hA h13 (by rfl) (by decide), show kn 13 = 4 from rfl]
  have i := drops13 (ov := ov) (z := z) (iv := iv) hA h13 hn hw hl 1000 0 (by omega) (by omega)
  rw [show min 0 n = 0 by omega] at i
  exact i
theorem waste36 {X : Int32} (hA : IN A) (h13 : A.2.2 13 r = true) (hn : n ≤ 4) (hw : ∀ w, w < 4 → rv 13 r w = if w < n then some (16, 4 * r + w) else none) (hl : ∀ w, w < n → A.2.2 16 (4 * r + w) = true) : ∀ m j, j ≤ 4 → 4 < j + m → F_X5_waste_b36 m (X - isum (fun w => iv 16 (4 * r + w) 2 * iv 16 (4 * r + w) 0) (min j n)) (some (A.1 13 r)) (nI 4) (nI j) (z, hv A iv rv ov) = rtv (X - isum (fun w => iv 16 (4 * r + w) 2 * iv 16 (4 * r + w) 0) n) (z, hv A iv rv ov) := by
  intro m
  induction m with
  | zero => intro j a b; omega
  | succ m ih =>
    intro j hj hm
    unfold F_X5_waste_b36
    by_cases q : 4 ≤ j
    · rw [if_pos (nI_le q (by omega)), show min j n = n by omega]
    · rw [if_neg (nI_ge (by omega) (by omega)), nn_s, aldR_hv (q := 4) hA h13 (by rfl) (show j < 4 by omega), hw j (by omega)]
      unfold F_X5_waste_b69
      have i := ih (j + 1) (by omega) (by omega)
      by_cases g : j < n
      · rw [if_pos g, rfv_s, nlc_s, gfI_hv hA (hl j g) (by rfl) (by decide) (by rfl), gfI_hv hA (hl j g) (by rfl) (by decide) (by rfl), nI_1, Int32.sub_sub]
        rw [show min (j + 1) n = j + 1 by omega] at i
        rw [show min j n = j by omega]
        exact i
      · rw [if_neg g, rfv_n, nlc_n, Int32.sub_zero, nI_1]
        rw [show min (j + 1) n = n by omega] at i
        rw [show min j n = n by omega]
        exact i
theorem sum5 {b : Bool} (hM : MD A rv) (hr : r < 4) (hn : n ≤ 4) (h32 : iv 32 0 r = nI n) : ∀ m j, j ≤ n → n < j + m → F_X8_sum_b5 m (A.1 20 0) (nI r) (bI b) (isum (fun w => iv 33 0 (4 * r + w) * (if b = true then iv 34 0 (4 * r + w) else 1)) j) (nI j) (z, hv A iv rv ov) = rtv (isum (fun w => iv 33 0 (4 * r + w) * (if b = true then iv 34 0 (4 * r + w) else 1)) n) (z, hv A iv rv ov) := by
  intro m
  induction m with
  | zero => intro j a b; omega
  | succ m ih =>
    intro j hj hm
    unfold F_X8_sum_b5
    rw [mR15 hM, nn_s, mA15 hM hr, h32]
    by_cases q : n ≤ j
    · rw [if_pos (nI_le q (by omega)), show j = n by omega]
    · rw [if_neg (nI_ge (by omega) (by omega)), mR16 hM, nn_s, wix, mA16 hM (by omega), bI_if, mR17 hM, nn_s, mA17 hM (by omega)]
      unfold F_X8_sum_b47
      have i := ih (j + 1) (by omega) (by omega)
      rw [nI_1]
      cases b
      · exact i
      · exact i
theorem rg_ne {v : Int32} (h : ¬ inR v 0 5) : ∀ n, n ≤ 5 → ¬ v = nI n := fun n hn q => h (by rw [q]; exact rg_to (a := 0) (b := 5) (Nat.zero_le _) hn (by decide))
theorem sc12 {v1 v2 : Int32} (h : INV A iv rv np nr nl) (hF : RFA A rv) : OP A cs_L_room (F_X7_room (A.1 0 0) v1 v2 (z, hv A iv rv ov)) (F_X8_room (A.1 20 0) v1 v2) := by
  have hM := h.1
  have hA := hM.1
  obtain ⟨⟨t0, -⟩, -⟩ := id h.2.1
  obtain ⟨-, -, -, -, -, -, c1, c2, c3, c4⟩ := id h.2.2.1
  unfold F_X7_room F_X8_room
  by_cases hx : ∃ j, j < 4 ∧ v1 = nI j
  · obtain ⟨r, hr, rfl⟩ := hx
    obtain ⟨g1, g2, g3, g4, g5, g6, g7, n, g8, g9, g10, g11, g12, g13, g14⟩ := h.2.2.2.2.2.2 r hr
    by_cases hv2 : inR v2 0 5
    · have hv2' := hv2
      obtain ⟨k, rfl, hk⟩ := rg5 hv2
      have hl : ∀ w, w < n → A.2.2 16 (4 * r + w) = true := fun w hw => by
        obtain ⟨d, hh, w1, w2, -⟩ := g13 w hw
        exact w2
      have hY : ∀ z1 ov', (bnd (F_X8_isRoom (nI r) (z1, hv A iv rv ov')) fun x46 h46 => (if x46 = 0 then F_X8_room_b26 (A.1 20 0) (nI r) (nI k) 1 (A.1 20 0) h46 else bnd (F_X8_is (nI k) 0 5 h46) fun x47 h47 => (if x47 = 0 then F_X8_room_b26 (A.1 20 0) (nI r) (nI k) 2 (A.1 20 0) h47 else F_X8_room_b26 (A.1 20 0) (nI r) (nI k) 0 (A.1 20 0) h47))) = F_X8_room_b26 (A.1 20 0) (nI r) (nI k) 0 (A.1 20 0) (z1, hv A iv rv ov') := by
        intro z1 ov'
        rw [isRoom_in hr, bnd_v, if_neg (by decide), is_in hv2', bnd_v, if_neg (by decide)]
      have hX : ∀ K : Nat → hpT → Rs Int32, isO (z, hv A iv rv ov) (A.1 0 0) 7 (bnd (F_X7_roomAt (A.1 0 0) (nI r) (z, hv A iv rv ov)) K) = K (A.1 12 r) (z, hv A iv rv ov) := by
        intro K
        rw [isO_hv hA t0 (by rfl) (by decide), roomAt_in h hr, bnd_v]
      have h32' : (u3 iv 20 0 0 0) 32 0 r = nI n := by rw [u3_T (by decide)]; exact g10
      rcases (show k = 0 ∨ k = 1 ∨ 2 ≤ k by omega) with rfl | rfl | hk2
      · refine op_ans (z := z) (ov := ov) (x := nI n) h hF ?_ (fun z1 ov' => (hY z1 ov').trans ?_)
        · rw [hX, if_pos (by decide), gfI_hv hA g1 (by rfl) (by decide) (by rfl), g9]
        · unfold F_X8_room_b26
          rw [mO hM, ref0 hM, bnd_v, if_pos rfl, if_neg (by decide), if_pos (by decide), mR15 hM, nn_s, mA15 hM hr, h32']
      · refine op_ans (z := z) (ov := ov) (x := isum (fun w => iv 16 (4 * r + w) 2) n) h hF ?_ (fun z1 ov' => (hY z1 ov').trans ?_)
        · rw [hX, if_neg (by decide), if_pos (by decide), isO_hv hA g1 (by rfl) (by decide), drops_spec hA g1 g2 g5 g8 g11 hl, bnd_v]
        · unfold F_X8_room_b26 F_X8_sum
          have s5 := sum5 (ov := ov') (z := z1) (b := false) (iv := u3 iv 20 0 0 0) hM hr g8 h32' 1000 0 (by omega) (by omega)
          rw [mO hM, ref0 hM, bnd_v, if_pos rfl, if_neg (by decide), if_neg (by decide), mO hM]
          refine (congrArg (fun q => bnd q _) s5).trans ?_
          rw [bnd_v]
          refine congrArg (fun q => rtv q _) (isum_congr n (fun w hw => ?_))
          obtain ⟨d, hh, w1, w2, w3, w4, w5, w6, w7, w8, w9, w10, w11, w12⟩ := g13 w hw
          rw [u3_T (by decide), w6, w5, if_neg (by decide), Int32.mul_one]
      · rcases g14 with ⟨b1, b2⟩ | ⟨l, b1, b2, o, ph, L, R, kk, q, q1, q2, q3, q4, q5, q6, q7, q8, q9, q10, q11, q12, q13, q14, q15, q16, q17, q18⟩
        · refine op_ans (z := z) (ov := ov) (x := -1) h hF ?_ (fun z1 ov' => (hY z1 ov').trans ?_)
          · rw [hX]
            rcases (show k = 2 ∨ k = 3 ∨ k = 4 ∨ k = 5 by omega) with rfl | rfl | rfl | rfl
            · rw [if_neg (by decide), if_neg (by decide), if_pos (by decide), isO_hv hA g1 (by rfl) (by decide), cHung_n hA g1 b1, bnd_v, if_pos rfl]
            · rw [if_neg (by decide), if_neg (by decide), if_neg (by decide), if_pos (by decide), isO_hv hA g1 (by rfl) (by decide), cHung_n hA g1 b1, bnd_v, if_pos rfl]
            · rw [if_neg (by decide), if_neg (by decide), if_neg (by decide), if_neg (by decide), if_pos (by decide), isO_hv hA g1 (by rfl) (by decide), cHung_n hA g1 b1, bnd_v, if_pos rfl]
            · rw [if_neg (by decide), if_neg (by decide), if_neg (by decide), if_neg (by decide), if_neg (by decide), if_pos (by decide), isO_hv hA g1 (by rfl) (by decide)]
              unfold F_X5_waste
              rw [gfR_hv hA g1 (by rfl) (by decide) (by rfl), b1, rfv_n, nlc_n, bnd_v]
          · unfold F_X8_room_b26
            rw [mO hM, ref0 hM, bnd_v, if_pos rfl, if_pos (show (2 : Int32) ≤ nI k from nI_le (a := 2) hk2 (by omega)), mO hM, mHung_n hM hr (by rw [u3_T (by decide)]; exact b2), bnd_v, if_pos rfl]
        · obtain ⟨lq, lk, lL, p1, p2, p3, p4, p5, p6, p7, p8, p9, p10, p11, p12, p13, p14⟩ := h.2.2.2.2.2.1 l b1
          refine op_ans (z := z) (ov := ov) (x := if k = 2 then nI l else if k = 3 then nI ph else if k = 4 then nI o else nI o * nI L - isum (fun w => iv 16 (4 * r + w) 2 * iv 16 (4 * r + w) 0) n) h hF ?_ (fun z1 ov' => (hY z1 ov').trans ?_)
          · rw [hX]
            rcases (show k = 2 ∨ k = 3 ∨ k = 4 ∨ k = 5 by omega) with rfl | rfl | rfl | rfl
            · rw [if_neg (by decide), if_neg (by decide), if_pos (by decide), isO_hv hA g1 (by rfl) (by decide), cHung_s hA g1 b2, bnd_v, if_neg (by decide), gfI_hv hA g1 (by rfl) (by decide) (by rfl), q1]
              rfl
            · rw [if_neg (by decide), if_neg (by decide), if_neg (by decide), if_pos (by decide), isO_hv hA g1 (by rfl) (by decide), cHung_s hA g1 b2, bnd_v, if_neg (by decide), gfR_hv hA g1 (by rfl) (by decide) (by rfl), g6, rfv_s, nn_s, gfI_hv hA g3 (by rfl) (by decide) (by rfl), q7]
              rfl
            · rw [if_neg (by decide), if_neg (by decide), if_neg (by decide), if_neg (by decide), if_pos (by decide), isO_hv hA g1 (by rfl) (by decide), cHung_s hA g1 b2, bnd_v, if_neg (by decide), gfR_hv hA g1 (by rfl) (by decide) (by rfl), g6, rfv_s, nn_s, gfI_hv hA g3 (by rfl) (by decide) (by rfl), q3]
              rfl
            · rw [if_neg (by decide), if_neg (by decide), if_neg (by decide), if_neg (by decide), if_neg (by decide), if_pos (by decide), isO_hv hA g1 (by rfl) (by decide)]
              unfold F_X5_waste
              rw [gfR_hv hA g1 (by rfl) (by decide) (by rfl), b2, rfv_s, nlc_s, gfR_hv hA g1 (by rfl) (by decide) (by rfl), g6, rfv_s, nn_s, gfI_hv hA g3 (by rfl) (by decide) (by rfl), q3, gfR_hv hA g1 (by rfl) (by decide) (by rfl), b2, rfv_s, nn_s, gfI_hv hA p3 (by rfl) (by decide) (by rfl), q10, gfR_hv hA g1 (by rfl) (by decide) (by rfl), g5, rfv_s, nn_s, alen_R (k := 4) hA g2 (by rfl) (by decide), show kn 13 = 4 from rfl]
              have w36 := waste36 (X := nI o * nI L) (ov := ov) (z := z) (iv := iv) hA g2 g8 g11 hl 1000 0 (by omega) (by omega)
              rw [show min 0 n = 0 by omega, show isum (fun w => iv 16 (4 * r + w) 2 * iv 16 (4 * r + w) 0) 0 = 0 from rfl, Int32.sub_zero] at w36
              refine (congrArg (fun q => bnd q _) w36).trans ?_
              rfl
          · unfold F_X8_room_b26
            rw [mO hM, ref0 hM, bnd_v, if_pos rfl, if_pos (show (2 : Int32) ≤ nI k from nI_le (a := 2) hk2 (by omega)), mO hM, mHung_s hM hr (show l < 10 by omega) (by rw [u3_T (by decide)]; exact q2), bnd_v, if_neg (by decide)]
            rcases (show k = 2 ∨ k = 3 ∨ k = 4 ∨ k = 5 by omega) with rfl | rfl | rfl | rfl
            · rw [if_pos (by decide), mR18 hM, nn_s, mA18 hM hr, u3_T (by decide), q2]
              rfl
            · rw [if_neg (by decide), if_pos (by decide), mR19 hM, nn_s, mA19 hM hr, u3_T (by decide), q8]
              rfl
            · rw [if_neg (by decide), if_neg (by decide), if_pos (by decide), mR20 hM, nn_s, mA20 hM hr, u3_T (by decide), q4]
              rfl
            · have s5 := sum5 (ov := ov') (z := z1) (b := true) (iv := u3 iv 20 0 0 0) hM hr g8 h32' 1000 0 (by omega) (by omega)
              rw [if_neg (by decide), if_neg (by decide), if_neg (by decide), mR20 hM, nn_s, mA20 hM hr, u3_T (by decide), q4, mR14 hM, mR18 hM, nn_s, mA18 hM hr, u3_T (by decide), q2, nn_s, mA14 hM (show l < 10 by omega), u3_T (by decide), p12, mO hM]
              unfold F_X8_sum
              refine (congrArg (fun q => bnd q _) s5).trans ?_
              rw [bnd_v]
              have e : nI lL = nI L := by rw [← p11, q10]
              rw [e]
              refine congrArg (fun q => rtv (nI o * nI L - q) _) (isum_congr n (fun w hw => ?_))
              obtain ⟨d, hh, w1, w2, w3, w4, w5, w6, w7, w8, w9, w10, w11, w12⟩ := g13 w hw
              rw [u3_T (by decide), u3_T (by decide), w5, w6, w9, w10]
              rfl
    · refine op_ref (z := z) (ov := ov) (k := 2) (b := 0) h hF ?_ (fun _ => wc2 (by decide)) (by decide) (fun z1 => ?_)
      · have e := rg_ne hv2
        rw [isO_hv hA t0 (by rfl) (by decide), roomAt_in h hr, bnd_v, if_neg (show ¬ v2 = 0 from e 0 (by decide)), if_neg (show ¬ v2 = 1 from e 1 (by decide)), if_neg (show ¬ v2 = 2 from e 2 (by decide)), if_neg (show ¬ v2 = 3 from e 3 (by decide)), if_neg (show ¬ v2 = 4 from e 4 (by decide)), if_neg (show ¬ v2 = 5 from e 5 (by decide))]
      · unfold F_X8_room_b26
        rw [isRoom_in hr, bnd_v, if_neg (by decide), is_out hv2, bnd_v, if_pos rfl, mO hM, ref2 hM, bnd_v, if_neg (by decide)]
  · refine op_ref (z := z) (ov := ov) (k := 1) (b := 0) h hF ?_ (fun _ => wc1) (by decide) (fun z1 => ?_)
    · rw [isO_hv hA t0 (by rfl) (by decide), roomAt_out h hx, bnd_t]
    · unfold F_X8_room_b26
      rw [isRoom_out hx, bnd_v, if_pos rfl, mO hM, ref1 hM, bnd_v, if_neg (by decide)]
end RM
