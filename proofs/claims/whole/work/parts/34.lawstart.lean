/-! the law from its entry, over any invariant that the start gives and that each call keeps -/
theorem nw_7 : NWO 7 RX7 8 [.null, .int 0, .null, .int 0, .null, .int 0, .null, .int 0] := ⟨TX7, tyX7, rfl, lay_7, tyX7_ok, fun j hj => by rcases (show j = 0 ∨ j = 1 ∨ j = 2 ∨ j = 3 ∨ j = 4 ∨ j = 5 ∨ j = 6 ∨ j = 7 by omega) with rfl | rfl | rfl | rfl | rfl | rfl | rfl | rfl <;> rfl, gdL_in 63 (by decide +kernel) (by decide +kernel), gdL_in 46 (by decide +kernel) (by decide +kernel)⟩
theorem nw_8 : NWO 8 RX8 29 [.int 0, .int 0, .null, .null, .null, .null, .int 0, .null, .null, .null, .int 0, .null, .null, .null, .null, .null, .null, .null, .null, .null, .null, .null, .null, .int 0, .int 0, .int 0, .null, .null, .int 0] := ⟨TX8, tyX8, rfl, lay_8, tyX8_ok, fun j hj => by rcases (show j = 0 ∨ j = 1 ∨ j = 2 ∨ j = 3 ∨ j = 4 ∨ j = 5 ∨ j = 6 ∨ j = 7 ∨ j = 8 ∨ j = 9 ∨ j = 10 ∨ j = 11 ∨ j = 12 ∨ j = 13 ∨ j = 14 ∨ j = 15 ∨ j = 16 ∨ j = 17 ∨ j = 18 ∨ j = 19 ∨ j = 20 ∨ j = 21 ∨ j = 22 ∨ j = 23 ∨ j = 24 ∨ j = 25 ∨ j = 26 ∨ j = 27 ∨ j = 28 by omega) with rfl | rfl | rfl | rfl | rfl | rfl | rfl | rfl | rfl | rfl | rfl | rfl | rfl | rfl | rfl | rfl | rfl | rfl | rfl | rfl | rfl | rfl | rfl | rfl | rfl | rfl | rfl | rfl | rfl <;> rfl, gdL_in 637 (by decide +kernel) (by decide +kernel), gdL_in 49 (by decide +kernel) (by decide +kernel)⟩
theorem lk_RL_65 : LNK RL 65 yX7_init := Or.inl (gdL_in 64 (by decide +kernel) (by decide +kernel))
theorem lk_RL_68 : LNK RL 68 yX8_init := Or.inl (gdL_in 638 (by decide +kernel) (by decide +kernel))
theorem cl_RL_8 : Cond.classLink RL 8 RX7 ∈ gdL := gdL_in 62 (by decide +kernel) (by decide +kernel)
theorem cl_RL_66 : Cond.classLink RL 66 RX8 ∈ gdL := gdL_in 636 (by decide +kernel) (by decide +kernel)
theorem ac_long : Cond.arrayClass .long ∈ gdL := gdL_in 867 (by decide +kernel) (by decide +kernel)
def START (Inv : Nat → Nat → Nat → (Nat → Option va_E) → Prop) : Prop := ∀ z0 : Nat, ∃ h2 h4 : hpT, F_X7_init z0 (hpush (z0, fun _ => none) (oO 7 [.null, .int 0, .null, .int 0, .null, .int 0, .null, .int 0])) = some (.inl (), h2) ∧ F_X8_init h2.1 (hpush h2 (oO 8 [.int 0, .int 0, .null, .null, .null, .null, .int 0, .null, .null, .null, .int 0, .null, .null, .null, .null, .null, .null, .null, .null, .null, .null, .null, .null, .int 0, .int 0, .int 0, .null, .null, .int 0])) = some (.inl (), h4) ∧ Inv z0 h2.1 h4.1 (hpush h4 (oL 1 (fun _ => 0))).2
theorem arr_int {s : State} {args : Array Value} {ty : FieldType} (hk : ∀ C, ty ≠ .object C) (h : (Cond.arrayClass ty).before args s = true) : ∃ cA, ArrOfT s cA ty ∧ va_RA s cA ty := by
  obtain ⟨cA, kA, comp, h1, h2, h3⟩ := Cond.arrayClass_spec (args := args) (first := s) (o := none) (s := s) (idx := []) h
  refine ⟨cA, fun n z => ⟨fun k h => (by cases h), kA, h2, comp, h3⟩, ?_⟩
  cases ty with
  | object C => exact absurd rfl (hk C)
  | _ => exact h1
theorem arr_obj {s : State} {args : Array Value} {C : String} (h : (Cond.arrayOver (.object C)).before args s = true) : ∃ cA, ArrOfT s cA (.object C) ∧ va_RA s cA (.object C) := by
  obtain ⟨comp, cA, kA, h1, -, h2, h3, h4⟩ := Cond.arrayOver_spec (args := args) (first := s) (o := none) (s := s) (idx := []) h
  exact ⟨cA, fun n z => ⟨fun k h => (by cases h), kA, h2, comp, h3⟩, kA, comp, h2, h3, h1, h4⟩
set_option maxRecDepth 100000 in
set_option maxHeartbeats 4000000 in
theorem kx_start {p : Program} {s : State} {m : MethodId} {meth : Method} {c : Code} {b L : Nat} {xs : Nat → Int32} (C0 : lw_At p s m meth c b L xs) : ∃ (D : va_G) (cA : Nat → ClassId), Kx strL D cA s.heap.size s := by
  obtain ⟨hx, hb, hr, hml, hown, hts, hX, hbl, hlocks, hgv⟩ := C0
  have hs := flat_of_before _ hgv
  have hg : ∀ w ∈ gdL, w.before #[Value.ref b] s = true := fun w hw => hts w (List.mem_filter.mp hw).1
  obtain ⟨c0, iS0, hKn0⟩ := u_known (C := RX0) (T := TX0) (N := 3) (n := 3) hg lay_0 (hts _ (List.mem_of_getElem? (i := 268) (by decide +kernel)))
  obtain ⟨c1, iS1, hKn1⟩ := u_known (C := RX1) (T := TX1) (N := 5) (n := 5) hg lay_1 (hts _ (List.mem_of_getElem? (i := 440) (by decide +kernel)))
  obtain ⟨c2, iS2, hKn2⟩ := u_known (C := RX2) (T := TX2) (N := 6) (n := 6) hg lay_2 (hts _ (List.mem_of_getElem? (i := 86) (by decide +kernel)))
  obtain ⟨c3, iS3, hKn3⟩ := u_known (C := RX3) (T := TX3) (N := 4) (n := 4) hg lay_3 (hts _ (List.mem_of_getElem? (i := 262) (by decide +kernel)))
  obtain ⟨c4, iS4, hKn4⟩ := u_known (C := RX4) (T := TX4) (N := 2) (n := 2) hg lay_4 (hts _ (List.mem_of_getElem? (i := 406) (by decide +kernel)))
  obtain ⟨c5, iS5, hKn5⟩ := u_known (C := RX5) (T := TX5) (N := 5) (n := 5) hg lay_5 (hts _ (List.mem_of_getElem? (i := 78) (by decide +kernel)))
  obtain ⟨c6, iS6, hKn6⟩ := u_known (C := RX6) (T := TX6) (N := 3) (n := 3) hg lay_6 (hts _ (List.mem_of_getElem? (i := 510) (by decide +kernel)))
  obtain ⟨c7, iS7, hKn7⟩ := u_known (C := RX7) (T := TX7) (N := 8) (n := 8) hg lay_7 (hts _ (List.mem_of_getElem? (i := 63) (by decide +kernel)))
  obtain ⟨c8, iS8, hKn8⟩ := u_known (C := RX8) (T := TX8) (N := 29) (n := 29) hg lay_8 (hts _ (List.mem_of_getElem? (i := 637) (by decide +kernel)))
  obtain ⟨a0, hA0⟩ := arr_int (fun C h => by cases h) (hts (Cond.arrayClass .int) (List.mem_of_getElem? (i := 114) (by decide +kernel)))
  obtain ⟨a1, hA1⟩ := arr_int (fun C h => by cases h) (hts (Cond.arrayClass .long) (List.mem_of_getElem? (i := 867) (by decide +kernel)))
  obtain ⟨a2, hA2⟩ := arr_obj (hts (Cond.arrayOver (.object RX3)) (List.mem_of_getElem? (i := 71) (by decide +kernel)))
  obtain ⟨a3, hA3⟩ := arr_obj (hts (Cond.arrayOver (.object RX4)) (List.mem_of_getElem? (i := 73) (by decide +kernel)))
  obtain ⟨a4, hA4⟩ := arr_obj (hts (Cond.arrayOver (.object RX1)) (List.mem_of_getElem? (i := 75) (by decide +kernel)))
  obtain ⟨a5, hA5⟩ := arr_obj (hts (Cond.arrayOver (.object RX5)) (List.mem_of_getElem? (i := 77) (by decide +kernel)))
  obtain ⟨a6, hA6⟩ := arr_obj (hts (Cond.arrayOver (.object RX6)) (List.mem_of_getElem? (i := 84) (by decide +kernel)))
  refine ⟨(fun k => if k = 0 then c0 else if k = 1 then c1 else if k = 2 then c2 else if k = 3 then c3 else if k = 4 then c4 else if k = 5 then c5 else if k = 6 then c6 else if k = 7 then c7 else c8, fun k => if k = 0 then iS0 else if k = 1 then iS1 else if k = 2 then iS2 else if k = 3 then iS3 else if k = 4 then iS4 else if k = 5 then iS5 else if k = 6 then iS6 else if k = 7 then iS7 else iS8), fun k => if k = 0 then a0 else if k = 1 then a1 else if k = 2 then a2 else if k = 3 then a3 else if k = 4 then a4 else if k = 5 then a5 else a6, ⟨?_, ?_⟩, ?_, ?_, ?_, ?_, ?_, Nat.le_refl _, ?_⟩
  · intro k q hq
    match k, hq with
    | 0, hq => cases hq; exact hKn0
    | 1, hq => cases hq; exact hKn1
    | 2, hq => cases hq; exact hKn2
    | 3, hq => cases hq; exact hKn3
    | 4, hq => cases hq; exact hKn4
    | 5, hq => cases hq; exact hKn5
    | 6, hq => cases hq; exact hKn6
    | 7, hq => cases hq; exact hKn7
    | 8, hq => cases hq; exact hKn8
    | k + 9, hq => simp [vwCl] at hq
  · intro k q hq
    match k, hq with
    | 0, hq => cases hq; exact hA0
    | 1, hq => cases hq; exact hA1
    | 2, hq => cases hq; exact hA2
    | 3, hq => cases hq; exact hA3
    | 4, hq => cases hq; exact hA4
    | 5, hq => cases hq; exact hA5
    | 6, hq => cases hq; exact hA6
    | k + 7, hq => simp [KT] at hq
  · exact fun w hw => va_Nw.of (ngL_tab hw) (hts w (List.mem_filter.mp hw).1)
  · intro C hC
    refine va_AO.of (A := #[Value.ref b]) (hts _ ?_)
    have h := List.all_eq_true.mp (show aoL.all (fun C => decide (Cond.arrayOver (.object C) ∈ lw_tbl)) = true by decide +kernel) C hC
    simpa using h
  · intro q hq
    have h1 := List.all_eq_true.mp (show strL.all (fun q => decide (Cond.stringRef q.1 q.2.1 q.2.2 ∈ lw_tbl)) = true by decide +kernel) q hq
    have h2 := List.all_eq_true.mp (show strL.all (fun q => decide (Cond.exactly (.string q.1 q.2.1) "java/lang/String" ∈ flatC (Jvm.Cond.and given_1 narrow_1))) = true by decide +kernel) q hq
    simp only [decide_eq_true_eq] at h1 h2
    obtain ⟨a, _, _, _, e1, -⟩ := Cond.exactly_spec (args := #[Value.ref b]) (first := s) (o := none) (s := s) (idx := []) (hs _ h2)
    exact ⟨a, vk_R.of (hts _ h1) e1⟩
  · exact vx_Zqof (args := #[Value.ref b]) (hts _ (List.mem_of_getElem? (i := 204) (by decide +kernel))) (hts _ (List.mem_of_getElem? (i := 50) (by decide +kernel))) (hs _ (by decide +kernel)) (fun a h => Nat.not_le.mpr h)
  · exact vx_Zqof (args := #[Value.ref b]) (hts _ (List.mem_of_getElem? (i := 206) (by decide +kernel))) (hts _ (List.mem_of_getElem? (i := 50) (by decide +kernel))) (hs _ (by decide +kernel)) (fun a h => Nat.not_le.mpr h)
  · intro q hq
    have h2 := List.all_eq_true.mp (show ncL.all (fun q => decide (Cond.not (.castable q.1 q.2) ∈ flatC (Jvm.Cond.and given_1 narrow_1))) = true by decide +kernel) q hq
    simp only [decide_eq_true_eq] at h2
    exact va_Nc.of (hs _ h2)
set_option maxRecDepth 100000 in
set_option maxHeartbeats 4000000 in
theorem whole_of (Inv : Nat → Nat → Nat → (Nat → Option va_E) → Prop) (hI : ∀ ax am ao g, Inv ax am ao g → (∃ fs, g ax = some (.inr (7, fs))) ∧ (∃ fs, g am = some (.inr (8, fs)))) (h0s : START Inv) (hst : ∀ ax am ao z g, Inv ax am ao g → (∀ a e, g a = some e → a < z) → SCs (Inv ax am ao) ax am ao z g)
    {p : Program} {e : Env} {s : State} {m : MethodId} {below : List Frame} {meth : Method} {c : Code} (l : Launch) (hflags : l.flags = flags0) {b L : Nat} {xs : Nat → Int32} (hL : L ≤ 2560) (C0 : lw_At p s m meth c b L xs) : W p l e room_1 s m #[Value.ref b] below meth c s.heap [] 0 0 (lw_Z below #[Value.ref b] s) (entryFrame m ([Value.ref b] : List Value).toArray 7) := by
  obtain ⟨D, cA, hK⟩ := kx_start C0
  obtain ⟨hx, hb, hr, hml, hown, hts, hX, hbl, hlocks, hgv⟩ := id C0
  have hl : l.stackTraces = false := by unfold Launch.stackTraces; rw [hflags]; decide +kernel
  have K : Cx strL D cA s.heap.size p l s m #[Value.ref b] meth c cL_law RL 7 := ⟨hx, hb, hml, hown, fun w hw => hts w (List.mem_filter.mp hw).1, hK, hl, hlocks⟩
  obtain ⟨h2, h4, e1, e2, e3⟩ := h0s s.heap.size
  have hlp := lvP_entry [Value.ref b] (n := 7) (cat_c rfl cat_n) (Nat.le_of_ble_eq_true rfl)
  rw [lg_entry_eq]
  have W0 : Wd D cA s.heap.size (s.heap.size, fun _ => none) s.heap := ⟨rfl, Nat.le_refl _, fun a e h => by cases h⟩
  suffices k : G D cA s.heap.size p l e room_1 s m #[Value.ref b] below meth c 7 (lw_Z below #[Value.ref b] s) 0 0 (s.heap.size, fun _ => none) 0 [some (va_rf (some b)), none, none, none, none, none, none] [] from k s.heap [] _ W0 va_S.rf hlp
  have n1 : newO (s.heap.size, fun _ => none) 7 [.null, .int 0, .null, .int 0, .null, .int 0, .null, .int 0] (fun q h => rtv (q, h) h) = some (.inl (s.heap.size, hpush (s.heap.size, fun _ => none) (oO 7 [.null, .int 0, .null, .int 0, .null, .int 0, .null, .int 0])), hpush (s.heap.size, fun _ => none) (oO 7 [.null, .int 0, .null, .int 0, .null, .int 0, .null, .int 0])) := rfl
  refine r_new (pc := 0) K dL_law_0 cl_RL_8 nw_7 (by decide) (by decide) n1 (fun q hp1 hq => ?_)
  obtain ⟨rfl, rfl⟩ : q = s.heap.size ∧ hp1 = hpush (s.heap.size, fun _ => none) (oO 7 [.null, .int 0, .null, .int 0, .null, .int 0, .null, .int 0]) := by cases hq; exact ⟨rfl, rfl⟩
  refine r_dup (pc := 3) K dL_law_3 rfl ?_
  refine m_init (pc := 4) (st := [va_rf (some s.heap.size)]) (As := []) (b := s.heap.size) K (M_X7_init hl _ _ _ e1) dL_law_4 ce_X7_init ci_X7_init lk_RL_65 rfl rfl (by decide) rfl rfl (Nat.le_of_ble_eq_true rfl) (by decide) (by decide) ?_
  refine r_astore_n (pc := 7) (lv' := [some (va_rf (some b)), some (va_rf (some s.heap.size)), none, none, none, none, none]) K dL_law_7 (by decide) rfl ?_
  have n2 : newO h2 8 [.int 0, .int 0, .null, .null, .null, .null, .int 0, .null, .null, .null, .int 0, .null, .null, .null, .null, .null, .null, .null, .null, .null, .null, .null, .null, .int 0, .int 0, .int 0, .null, .null, .int 0] (fun q h => rtv (q, h) h) = some (.inl (h2.1, hpush h2 (oO 8 [.int 0, .int 0, .null, .null, .null, .null, .int 0, .null, .null, .null, .int 0, .null, .null, .null, .null, .null, .null, .null, .null, .null, .null, .null, .null, .int 0, .int 0, .int 0, .null, .null, .int 0])), hpush h2 (oO 8 [.int 0, .int 0, .null, .null, .null, .null, .int 0, .null, .null, .null, .int 0, .null, .null, .null, .null, .null, .null, .null, .null, .null, .null, .null, .null, .int 0, .int 0, .int 0, .null, .null, .int 0])) := rfl
  refine r_new (pc := 8) K dL_law_8 cl_RL_66 nw_8 (by decide) (by decide) n2 (fun q hp1 hq => ?_)
  obtain ⟨rfl, rfl⟩ : q = h2.1 ∧ hp1 = hpush h2 (oO 8 [.int 0, .int 0, .null, .null, .null, .null, .int 0, .null, .null, .null, .int 0, .null, .null, .null, .null, .null, .null, .null, .null, .null, .null, .null, .null, .int 0, .int 0, .int 0, .null, .null, .int 0]) := by cases hq; exact ⟨rfl, rfl⟩
  refine r_dup (pc := 11) K dL_law_11 rfl ?_
  refine m_init (pc := 12) (st := [va_rf (some h2.1)]) (As := []) (b := h2.1) K (M_X8_init hl _ _ _ e2) dL_law_12 ce_X8_init ci_X8_init lk_RL_68 rfl rfl (by decide) rfl rfl (Nat.le_of_ble_eq_true rfl) (by decide) (by decide) ?_
  refine r_astore_n (pc := 15) (lv' := [some (va_rf (some b)), some (va_rf (some s.heap.size)), some (va_rf (some h2.1)), none, none, none, none]) K dL_law_15 (by decide) rfl ?_
  refine r_iconst (pc := 16) (v := 1) K dL_law_16 (by decide) ?_
  have n3 : newL h4 1 (fun q h => rtv (q, h) h) = some (.inl (h4.1, hpush h4 (oL 1 (fun _ => 0))), hpush h4 (oL 1 (fun _ => 0))) := rfl
  refine r_newL (pc := 17) (N := 1) K dL_law_17 ac_long (by decide) (by decide) (by decide) (by decide) (by decide) n3 (fun q hp1 hq => ?_)
  obtain ⟨rfl, rfl⟩ : q = h4.1 ∧ hp1 = hpush h4 (oL 1 (fun _ => 0)) := by cases hq; exact ⟨rfl, rfl⟩
  refine r_astore_n (pc := 19) (lv' := [some (va_rf (some b)), some (va_rf (some s.heap.size)), some (va_rf (some h2.1)), some (va_rf (some h4.1)), none, none, none]) K dL_law_19 (by decide) rfl ?_
  refine r_iconst (pc := 20) (v := 0) K dL_law_20 (by decide) ?_
  refine r_istore (pc := 21) (lv' := [some (va_rf (some b)), some (va_rf (some s.heap.size)), some (va_rf (some h2.1)), some (va_rf (some h4.1)), some (.int (nI (5 * 0))), none, none]) K dL_law_21 (by decide) rfl ?_
  exact r_widen (by decide) (by decide) (law_loop K hr rfl rfl hL hX hbl (Inv := Inv s.heap.size h2.1 h4.1) (fun g hg => hI _ _ _ g hg) (fun z g hg hf => hst _ _ _ z g hg hf) (L + 1) 0 (by omega) (by decide) _ _ e3)
