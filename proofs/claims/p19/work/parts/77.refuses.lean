/-! the law's refuses -/
theorem no_ix {n m : Nat} (h : n ≤ m) (hm : m < 2 ^ 31) : ¬ ∃ j, j < n ∧ nI m = nI j := by
  rintro ⟨j, h1, h2⟩
  have := nI_inj hm (by omega) h2
  omega
theorem no_m1 {n : Nat} (hn : n < 2 ^ 31) : ¬ ∃ j, j < n ∧ (-1 : Int32) = nI j := by
  rintro ⟨j, h1, h2⟩
  exact nI_m1 (by omega) h2.symm
section RF
variable {A : Adr} {iv : IVt} {rv : RVt} {ov : Nat → Int64} {z nl : Nat} {Q : Int32 → hpT → Prop}
theorem rf309 (hI : INV A iv rv 3 6 nl) (hO : OKA A rv z) (q : ∀ z', OKA A rv z' → Q 1 (z', hv A iv rv ov)) : P_L_refuses_b309 (A.1 0 0) (iv 0 0 7) (z, hv A iv rv ov) Q := by
  have n10 : nl ≤ 10 := hI.2.2.1.2.2.2.2.2
  obtain ⟨g1, g2, g3, g4, g5, g6, g7, n, g8, g9, -⟩ := hI.2.2.2.2.2.2 0 (by decide)
  unfold P_L_refuses_b309
  refine q_th hI hO (k_wall_x hI (show ¬ ∃ j, j < 4 ∧ (4 : Int32) = nI j from no_ix (m := 4) (by decide) (by decide))) (fun _ => hk1) (fun z1 hO => ?_)
  rw [if_pos rfl]
  refine q_th hI hO (k_wall_w (r := 0) hI (by decide) (by unfold inR; decide)) (fun _ => hk2 (by decide)) (fun z1 hO => ?_)
  rw [if_pos rfl]
  refine q_th hI hO (k_wall_w (r := 0) hI (by decide) (by unfold inR; decide)) (fun _ => hk2 (by decide)) (fun z1 hO => ?_)
  rw [if_pos rfl]
  refine q_th hI hO (k_hang_l (r := 0) hI (by decide) (show ¬ ∃ j, j < nl ∧ (10 : Int32) = nI j from no_ix (m := 10) n10 (by decide))) (fun _ => hk1) (fun z1 hO => ?_)
  rw [if_pos rfl]
  refine q_th hI hO (k_hang_x hI (no_m1 (by decide))) (fun _ => hk1) (fun z1 hO => ?_)
  rw [if_pos rfl]
  refine q_th hI hO (k_len_w (r := 0) hI (by decide) g8 g9 (show ¬ ∃ j, j < n ∧ (4 : Int32) = nI j from no_ix (m := 4) g8 (by decide))) (fun _ => hk1) (fun z1 hO => ?_)
  rw [if_pos rfl]
  refine q_th hI hO (k_strip_x hI (show ¬ ∃ j, j < 4 ∧ (4 : Int32) = nI j from no_ix (m := 4) (by decide) (by decide))) (fun _ => hk1) (fun z1 hO => ?_)
  rw [if_pos rfl]
  refine q_th hI hO (k_room_x hI (show ¬ ∃ j, j < 4 ∧ (4 : Int32) = nI j from no_ix (m := 4) (by decide) (by decide))) (fun _ => hk1) (fun z1 hO => ?_)
  rw [if_pos rfl]
  refine q_th hI hO (k_room_w (r := 0) hI (by decide) (by unfold inR; decide)) (fun _ => hk2 (by decide)) (fun z1 hO => ?_)
  rw [if_pos rfl]
  refine q_th hI hO (k_cut_w (r := 0) hI (by decide) g8 g9 (show ¬ ∃ j, j < n ∧ (4 : Int32) = nI j from no_ix (m := 4) g8 (by decide))) (fun _ => hk1) (fun z1 hO => ?_)
  rw [if_pos rfl]
  refine q_th hI hO (k_seen_w (r := 0) hI (by decide) g8 g9 (show ¬ ∃ j, j < n ∧ (4 : Int32) = nI j from no_ix (m := 4) g8 (by decide))) (fun _ => hk1) (fun z1 hO => ?_)
  rw [if_pos rfl]
  refine q_lost hI ?_
  rw [if_pos rfl]
  exact ⟨Or.inr rfl, q _ hO⟩
theorem refuses_ok (hI : INV A iv rv 3 6 nl) (hO : OKA A rv z) (q : ∀ z', OKA A rv z' → Q 1 (z', hv A iv rv ov)) : P_L_refuses (A.1 0 0) (z, hv A iv rv ov) Q := by
  have n10 : nl ≤ 10 := hI.2.2.1.2.2.2.2.2
  obtain ⟨w, hh, s, hP, h7⟩ := hI.2.2.2.1 0 (by decide)
  obtain ⟨a1, a2, a3, a4, a5, a6, a7, a8, a9, a10⟩ := id hP
  obtain ⟨g1, g2, g3, g4, g5, g6, g7, g8, g9, g10, g11, g12⟩ := id a2
  unfold P_L_refuses P_L_refuses_b0
  refine q_lost hI ?_
  refine q_th hI hO (k_pattern_w (by unfold inR; decide)) (fun _ => hk1) (fun z1 hO => ?_)
  rw [if_pos rfl]
  refine q_th hI hO (k_pattern_w (by unfold inR; decide)) (fun _ => hk1) (fun z1 hO => ?_)
  rw [if_pos rfl]
  refine q_th hI hO (k_pattern_w (by unfold inR; decide)) (fun _ => hk1) (fun z1 hO => ?_)
  rw [if_pos rfl]
  refine q_th hI hO (k_pattern_w (by unfold inR; decide)) (fun _ => hk1) (fun z1 hO => ?_)
  rw [if_pos rfl]
  refine q_th hI hO (k_paint_x hI (show ¬ ∃ j, j < 3 ∧ (6 : Int32) = nI j from no_ix (m := 6) (by decide) (by decide))) (fun _ => hk1) (fun z1 hO => ?_)
  rw [if_pos rfl]
  refine q_th hI hO (k_paint_c (j := 0) hI (by decide) hP (Or.inl (show ¬ ∃ j, j < w ∧ (5 : Int32) = nI j from no_ix (m := 5) a7 (by decide)))) (fun _ => hk1) (fun z1 hO => ?_)
  rw [if_pos rfl]
  refine q_th hI hO (k_paint_c (j := 0) hI (by decide) hP (Or.inr (no_m1 (by omega)))) (fun _ => hk1) (fun z1 hO => ?_)
  rw [if_pos rfl]
  refine q_th hI hO (k_paint_w (j := 0) (X := 0) (Y := 0) hI (by decide) hP (by omega) (by omega) (by unfold inR; decide)) (fun _ => hk2 (by decide)) (fun z1 hO => ?_)
  rw [if_pos rfl]
  refine q_th hI hO (k_colour_x hI (no_m1 (by decide))) (fun _ => hk1) (fun z1 hO => ?_)
  rw [if_pos rfl]
  refine q_th hI hO (k_repeat_x hI (show ¬ ∃ j, j < 3 ∧ (6 : Int32) = nI j from no_ix (m := 6) (by decide) (by decide))) (fun _ => hk1) (fun z1 hO => ?_)
  rw [if_pos rfl]
  refine q_th hI hO (k_anew_x hI (no_m1 (by decide))) (fun _ => hk1) (fun z1 hO => ?_)
  rw [if_pos rfl]
  refine q_th hI hO (k_roller_x hI (show ¬ ∃ j, j < 3 ∧ (6 : Int32) = nI j from no_ix (m := 6) (by decide) (by decide))) (fun _ => hk1) (fun z1 hO => ?_)
  rw [if_pos rfl]
  refine q_th hI hO (k_roller_w (i := 0) hI (by decide) (by unfold inR; decide)) (fun _ => hk2 (by decide)) (fun z1 hO => ?_)
  rw [if_pos rfl]
  refine q_th hI hO (k_lot_x hI (show ¬ ∃ j, j < 6 ∧ (8 : Int32) = nI j from no_ix (m := 8) (by decide) (by decide))) (fun _ => hk1) (fun z1 hO => ?_)
  rw [if_pos rfl]
  refine q_th hI hO (k_lot_w (q := 0) hI (by decide) (by unfold inR; decide)) (fun _ => hk2 (by decide)) (fun z1 hO => ?_)
  rw [if_pos rfl]
  refine q_th hI hO (k_lot_w (q := 0) hI (by decide) (by unfold inR; decide)) (fun _ => hk2 (by decide)) (fun z1 hO => ?_)
  rw [if_pos rfl]
  refine q_th hI hO (k_lot_w (q := 0) hI (by decide) (by unfold inR; decide)) (fun _ => hk2 (by decide)) (fun z1 hO => ?_)
  rw [if_pos rfl]
  unfold P_L_refuses_b264
  rw [if_neg (by decide)]
  refine q_th hI hO (k_lotOf_x hI (show ¬ ∃ j, j < nl ∧ (10 : Int32) = nI j from no_ix (m := 10) n10 (by decide))) (fun _ => hk1) (fun z1 hO => ?_)
  rw [if_pos rfl]
  by_cases hn : nl = 0
  · refine q_th hI hO (k_lotOf_x hI (show ¬ ∃ j, j < nl ∧ (0 : Int32) = nI j from no_ix (m := 0) (by omega) (by decide))) (fun _ => hk1) (fun z1 hO => ?_)
    rw [if_neg (by decide)]
    refine q_th hI hO (k_lotOf_x hI (show ¬ ∃ j, j < nl ∧ (0 : Int32) = nI j from no_ix (m := 0) (by omega) (by decide))) (fun _ => hk1) (fun z1 hO => ?_)
    rw [if_pos rfl]
    exact rf309 hI hO q
  · refine q_th hI hO (k_lotOf_w (j := 0) hI (by omega) (by unfold inR; decide)) (fun _ => hk2 (by decide)) (fun z1 hO => ?_)
    rw [if_pos rfl]
    exact rf309 hI hO q
end RF
