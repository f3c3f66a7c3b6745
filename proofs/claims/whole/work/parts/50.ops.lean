/-! the calls that write nothing: colour, repeat, repeatAnew, lotOf, cut, lost -/
def IX : String := "java/lang/IndexOutOfBoundsException"
def IA : String := "java/lang/IllegalArgumentException"
def IS : String := "java/lang/IllegalStateException"
theorem wc1 {α : Type} {E : String} {cs : List String} {K : Int32 → Rs α} : wcode (E :: cs) 1 E K = K 1 := if_pos rfl
theorem wc2 {α : Type} {E E1 : String} {cs : List String} {K : Int32 → Rs α} (h : E ≠ E1) : wcode (E1 :: E :: cs) 1 E K = K 2 := (if_neg h).trans (if_pos rfl)
theorem wc3 {α : Type} {E E1 E2 : String} {cs : List String} {K : Int32 → Rs α} (h : E ≠ E1) (h2 : E ≠ E2) : wcode (E1 :: E2 :: E :: cs) 1 E K = K 3 := (if_neg h).trans ((if_neg h2).trans (if_pos rfl))
section O1
variable {A : Adr} {iv : IVt} {rv : RVt} {ov : Nat → Int64} {z np nr nl : Nat}
theorem ref0 (hM : MD A rv) : F_X8_refused (A.1 20 0) 0 (z, hv A iv rv ov) = rtv 0 (z, hv A (u3 iv 20 0 0 0) rv ov) := refused_spec (c := 0) hM (by decide)
theorem ref1 (hM : MD A rv) : F_X8_refused (A.1 20 0) 1 (z, hv A iv rv ov) = rtv 1 (z, hv A (u3 iv 20 0 0 1) rv ov) := refused_spec (c := 1) hM (by decide)
theorem ref2 (hM : MD A rv) : F_X8_refused (A.1 20 0) 2 (z, hv A iv rv ov) = rtv 1 (z, hv A (u3 iv 20 0 0 2) rv ov) := refused_spec (c := 2) hM (by decide)
theorem ref3 (hM : MD A rv) : F_X8_refused (A.1 20 0) 3 (z, hv A iv rv ov) = rtv 1 (z, hv A (u3 iv 20 0 0 3) rv ov) := refused_spec (c := 3) hM (by decide)
def OP (A : Adr) (cs : List String) (X : Rs Int32) (Y : hpT → Rs Int32) : Prop := SCB (IV (A.1 0 0) (A.1 20 0) (A.1 18 0)) (A.1 20 0) (A.1 18 0) cs X Y
/-- a refusal: nothing is written but the reference's word of it -/
theorem op_ref {cs : List String} {E : String} {X : Rs Int32} {Y : hpT → Rs Int32} {k b : Int32} (h : INV A iv rv np nr nl) (hF : RFA A rv) (hX : X = tht E (z, hv A iv rv ov)) (hc : ∀ h : hpT, (wcode cs 1 E fun k => rtv k h) = rtv k h) (hk : k ≠ 0) (hY : ∀ z1, Y (z1, hv A iv rv ov) = rtv b (z1, hv A (u3 iv 20 0 0 k) rv ov)) : OP A cs X Y := fin_ex hX hc hY hk u3_s hF rfl rfl rfl (h.ref k)
/-- an answer: nothing is written -/
theorem op_ans {cs : List String} {X : Rs Int32} {Y : hpT → Rs Int32} {x : Int32} (h : INV A iv rv np nr nl) (hF : RFA A rv) (hX : X = rtv x (z, hv A iv rv ov)) (hY : ∀ z1 ov', Y (z1, hv A iv rv ov') = rtv x (z1, hv A (u3 iv 20 0 0 0) rv ov')) : OP A cs X Y := fin_ok hX hY u3_s hF rfl rfl rfl (h.ref 0)
theorem sc2 {v1 v2 v3 : Int32} (h : INV A iv rv np nr nl) (hF : RFA A rv) : OP A cs_L_colour (F_X7_colour (A.1 0 0) v1 v2 v3 (z, hv A iv rv ov)) (F_X8_colour (A.1 20 0) v1 v2 v3) := by
  have hM := h.1
  have hA := hM.1
  obtain ⟨⟨t0, -⟩, -⟩ := id h.2.1
  unfold F_X7_colour F_X8_colour F_X8_colour_b14
  by_cases hx : ∃ j, j < np ∧ v1 = nI j
  · obtain ⟨j, hj, rfl⟩ := hx
    obtain ⟨w, hh, s, p1, p2, p3⟩ := h.2.2.2.1 j hj
    obtain ⟨-, -, -, -, m5, m6, m7, m8, m9, m10⟩ := id p2
    refine op_ans (z := z) (ov := ov) (x := pcol (iv 7 j) w hh s v2 v3) h hF ?_ (fun z1 ov' => ?_)
    · rw [isO_hv hA t0 (by rfl) (by decide), patAt_in h hj, bnd_v, isO_hv hA p1.1 (by rfl) (by decide), pc_spec hA p1, bnd_v]
    · have p2' : MPA (u3 iv 20 0 0 0) j w hh s := p2.to (u3_T (by decide)) (u3_T (by decide)) (u3_T (by decide))
      have e : mF (u3 iv 20 0 0 0) j = mF iv j := by
        unfold mF
        rw [u3_tag (by decide)]
      rw [mO hM, isPat_in h hj, bnd_v, if_neg (by decide), mO hM, ref0 hM, bnd_v, if_pos rfl, mO hM, mcol_spec hM p2', bnd_v, pcol_N (by omega) (by omega), e]
      exact congrArg (fun q => rtv q _) (pcN_congr (by omega) (by omega) m10 p3).symm
  · refine op_ref (z := z) (ov := ov) (k := 1) (b := 0) h hF ?_ (fun _ => wc1) (by decide) (fun z1 => ?_)
    · rw [isO_hv hA t0 (by rfl) (by decide), patAt_out h hx, bnd_t]
    · rw [mO hM, isPat_out h hx, bnd_v, if_pos rfl, mO hM, ref1 hM, bnd_v, if_neg (by decide)]
theorem sc3 {v1 v2 : Int32} (h : INV A iv rv np nr nl) (hF : RFA A rv) : OP A cs_L_repeat (F_X7_repeat (A.1 0 0) v1 (if v2 = 0 then 0 else 1) (z, hv A iv rv ov)) (F_X8_repeat (A.1 20 0) v1 (if v2 = 0 then 0 else 1)) := by
  have hM := h.1
  have hA := hM.1
  obtain ⟨⟨t0, -⟩, -⟩ := id h.2.1
  obtain ⟨b, hb⟩ : ∃ b : Bool, (if v2 = 0 then (0 : Int32) else 1) = bI b := by
    by_cases q : v2 = 0
    · exact ⟨false, if_pos q⟩
    · exact ⟨true, if_neg q⟩
  rw [hb]
  unfold F_X7_repeat F_X8_repeat F_X8_repeat_b14
  by_cases hx : ∃ j, j < np ∧ v1 = nI j
  · obtain ⟨j, hj, rfl⟩ := hx
    obtain ⟨w, hh, s, p1, p2, p3⟩ := h.2.2.2.1 j hj
    obtain ⟨q1, q2, q3, q4, q5, q6, q7, q8, q9, q10⟩ := id p1
    refine op_ans (z := z) (ov := ov) (x := if b = true then nI (rrM hh s) else nI (rcM w s)) h hF ?_ (fun z1 ov' => ?_)
    · rw [isO_hv hA t0 (by rfl) (by decide), patAt_in h hj, bnd_v, bI_if, gfI_hv hA q1 (by rfl) (by decide) (by rfl), gfI_hv hA q1 (by rfl) (by decide) (by rfl), q5, q6]
      cases b <;> rfl
    · have p2' : MPA (u3 iv 20 0 0 0) j w hh s := p2.to (u3_T (by decide)) (u3_T (by decide)) (u3_T (by decide))
      rw [mO hM, isPat_in h hj, bnd_v, if_neg (by decide), mO hM, ref0 hM, bnd_v, if_pos rfl, bI_if, mO hM, rows_spec hM p2', bnd_v, mO hM, cols_spec hM p2', bnd_v]
      cases b <;> rfl
  · refine op_ref (z := z) (ov := ov) (k := 1) (b := 0) h hF ?_ (fun _ => wc1) (by decide) (fun z1 => ?_)
    · rw [isO_hv hA t0 (by rfl) (by decide), patAt_out h hx, bnd_t]
    · rw [mO hM, isPat_out h hx, bnd_v, if_pos rfl, mO hM, ref1 hM, bnd_v, if_neg (by decide)]
theorem sc4 {v1 v2 : Int32} (h : INV A iv rv np nr nl) (hF : RFA A rv) : OP A cs_L_repeatAnew (F_X7_repeatAnew (A.1 0 0) v1 (if v2 = 0 then 0 else 1) (z, hv A iv rv ov)) (F_X8_repeatAnew (A.1 20 0) v1 (if v2 = 0 then 0 else 1)) := by
  have hM := h.1
  have hA := hM.1
  obtain ⟨⟨t0, -⟩, -⟩ := id h.2.1
  obtain ⟨b, hb⟩ : ∃ b : Bool, (if v2 = 0 then (0 : Int32) else 1) = bI b := by
    by_cases q : v2 = 0
    · exact ⟨false, if_pos q⟩
    · exact ⟨true, if_neg q⟩
  rw [hb]
  unfold F_X7_repeatAnew F_X8_repeatAnew F_X8_repeatAnew_b14
  by_cases hx : ∃ j, j < np ∧ v1 = nI j
  · obtain ⟨j, hj, rfl⟩ := hx
    obtain ⟨w, hh, s, p1, p2, p3⟩ := h.2.2.2.1 j hj
    obtain ⟨q1, q2, q3, q4, q5, q6, q7, q8, q9, q10⟩ := id p1
    obtain ⟨-, -, -, -, m5, m6, m7, m8, m9, m10⟩ := id p2
    have c1 := rcM_pos (w := w) (s := s) m5
    have c2 := rcM_le (w := w) (s := s) m6
    have r1 := rrM_pos (w := hh) (s := s) m7
    have r2 := rrM_le (w := hh) (s := s) m8
    obtain ⟨r, hr, hL⟩ := least_ex (S := MOVES (pcN (cF iv j w) w hh s) (rcM w s) (rrM hh s) b) (m := if b then rrM hh s else rcM w s) (by cases b; exact c1; exact r1) moves_full
    refine op_ans (z := z) (ov := ov) (x := nI r) h hF ?_ (fun z1 ov' => ?_)
    · rw [isO_hv hA t0 (by rfl) (by decide), patAt_in h hj, bnd_v, isO_hv hA q1 (by rfl) (by decide), least_spec hA p1 hL, bnd_v]
    · have p2' : MPA (u3 iv 20 0 0 0) j w hh s := p2.to (u3_T (by decide)) (u3_T (by decide)) (u3_T (by decide))
      have e : mF (u3 iv 20 0 0 0) j = mF iv j := by
        unfold mF
        rw [u3_tag (by decide)]
      have e2 : ∀ x y, pcN (cF iv j w) w hh s x y = pcN (mF (u3 iv 20 0 0 0) j) w hh s x y := fun x y => by
        rw [e]
        exact pcN_congr (by omega) (by omega) m10 p3
      have e3 : pcN (cF iv j w) w hh s = pcN (mF (u3 iv 20 0 0 0) j) w hh s := funext fun x => funext fun y => e2 x y
      rw [e3] at hL
      have hr10 : r ≤ 10 := by
        cases b
        · exact Nat.le_trans hr c2
        · exact Nat.le_trans hr r2
      rw [mO hM, isPat_in h hj, bnd_v, if_neg (by decide), mO hM, ref0 hM, bnd_v, if_pos rfl]
      exact anew24 hM p2' hr10 hL 1000 1 (by omega) hL.1 (by omega)
  · refine op_ref (z := z) (ov := ov) (k := 1) (b := 0) h hF ?_ (fun _ => wc1) (by decide) (fun z1 => ?_)
    · rw [isO_hv hA t0 (by rfl) (by decide), patAt_out h hx, bnd_t]
    · rw [mO hM, isPat_out h hx, bnd_v, if_pos rfl, mO hM, ref1 hM, bnd_v, if_neg (by decide)]
end O1
