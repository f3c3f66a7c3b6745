/-! the law from its entry -/
def R_law : String := "RollerLeafLaw"
def lw_P (b : Addr) (xs : List Int32) (args : Array Value) (s : State) : Prop := args = #[.ref b] ∧ s.IntsAt b xs ∧ xs.length ≤ 260 ∧ (Jvm.Cond.and given_1 narrow_1).before args s = true
def lw_Q (_ : Array Value) (s : State) (o : Outcome) (t : State) : Prop := o = .returned (some (.int 1)) ∧ Framed s o t [] 600104 7301314
def lw_Z (below : List Frame) (a : Array Value) (s : State) : State → Prop := fun t => ∃ o, t.status = .running ∧ Ended t below o ∧ lw_Q a s o t
/-- the law's own end, with 1 on the stack, nothing written that was there before, its room as the claim has it -/
theorem lw_ret {p : Program} {l : Launch} {e : Env} {s : State} {m : MethodId} {below : List Frame} {meth : Method} {c : Code} {b : Nat} (hx : p.tables.exec = Jvm.exec) (hb : c.code = code) (hr : meth.sig.returnType = ret) (hlocks : meth.locks = false) {pc : Nat} {H : Heap} {ls : Array Slot} (hdg : decode code pc = .ok (.ireturn, 1)) : W p l e room_1 s m #[Value.ref b] below meth c H [] 600104 7301314 (lw_Z below #[Value.ref b] s) (F0 m pc ls [.int 1]) := by
  intro T hT X
  obtain ⟨fs, hret, hrun, hended, hW, hframe⟩ := X.leave (v := some (.int 1)) (hlocks := hlocks) (fun h => by rw [hr] at h; cases h)
  have hmeth' : T.vm.method? m = some meth := X.method'
  refine ⟨T.setFrames fs, ?_, .returned (some (.int 1)), hrun, hended, rfl, ⟨_, rfl⟩, hW, hframe⟩
  jvm_step X.here [X.here.top, hx, hb, hdg, hmeth', hr, ret, narrow_b1]
  (try refine ⟨rfl, ?_⟩); (try refine ⟨rfl, ?_⟩)
  first | (intro acts; rw [hret _ acts rfl rfl rfl]) | rw [hret _ _ rfl rfl rfl]
  exact Steps.refl _
/-- what holds at the law's entry: the machine, the code, the tables' words (any of lw_tbl by 'hts w (by decide +kernel)'), the script of L ints xs at the cell b, what the Statement gives of the start (any of its parts by flat_of_before) -/
def lw_At (p : Program) (s : State) (m : MethodId) (meth : Method) (c : Code) (b L : Nat) (xs : Nat → Int32) : Prop :=
  p.tables.exec = Jvm.exec ∧ c.code = code ∧ meth.sig.returnType = ret ∧ c.maxLocals = 23 ∧ s.vm.findClass R_law = some m.cls ∧ (∀ w ∈ lw_tbl, w.before #[Value.ref b] s = true) ∧ va_X b L xs s s.heap ∧ b < s.heap.size ∧ meth.locks = false ∧ (Jvm.Cond.and given_1 narrow_1).before #[Value.ref b] s = true
theorem arr_int {s : State} {args : Array Value} {ty : FieldType} (hk : ∀ C, ty ≠ .object C) (h : (Cond.arrayClass ty).before args s = true) : ∃ cA, ArrOfT s cA ty ∧ va_RA s cA ty := by
  obtain ⟨cA, kA, comp, h1, h2, h3⟩ := Cond.arrayClass_spec (args := args) (first := s) (o := none) (s := s) (idx := []) h
  refine ⟨cA, fun n z => ⟨fun k h => (by cases h), kA, h2, comp, h3⟩, ?_⟩
  cases ty with
  | object C => exact absurd rfl (hk C)
  | _ => exact h1
theorem arr_obj {s : State} {args : Array Value} {C : String} (h : (Cond.arrayOver (.object C)).before args s = true) : ∃ cA, ArrOfT s cA (.object C) ∧ va_RA s cA (.object C) := by
  obtain ⟨comp, cA, kA, h1, -, h2, h3, h4⟩ := Cond.arrayOver_spec (args := args) (first := s) (o := none) (s := s) (idx := []) h
  exact ⟨cA, fun n z => ⟨fun k h => (by cases h), kA, h2, comp, h3⟩, kA, comp, h2, h3, h1, h4⟩
set_option maxRecDepth 100000 in
set_option maxHeartbeats 4000000 in
theorem kx_start {p : Program} {s : State} {m : MethodId} {meth : Method} {c : Code} {b L : Nat} {xs : Nat → Int32} (C0 : lw_At p s m meth c b L xs) : ∃ (D : va_G) (cA : Nat → ClassId), Kx strL D cA s.heap.size s := by
  obtain ⟨hx, hb, hr, hml, hown, hts, hX, hbl, hlocks, hgv⟩ := C0
  have hs := flat_of_before _ hgv
  have hg : ∀ w ∈ gdL, w.before #[Value.ref b] s = true := fun w hw => hts w (List.mem_filter.mp hw).1
  obtain ⟨c0, iS0, hKn0⟩ := u_known (C := RX0) (T := TX0) (N := 3) (n := 3) hg lay_0 (hts _ (List.mem_of_getElem? (i := 257) (by decide +kernel)))
  obtain ⟨c1, iS1, hKn1⟩ := u_known (C := RX1) (T := TX1) (N := 5) (n := 5) hg lay_1 (hts _ (List.mem_of_getElem? (i := 417) (by decide +kernel)))
  obtain ⟨c2, iS2, hKn2⟩ := u_known (C := RX2) (T := TX2) (N := 6) (n := 6) hg lay_2 (hts _ (List.mem_of_getElem? (i := 70) (by decide +kernel)))
  obtain ⟨c3, iS3, hKn3⟩ := u_known (C := RX3) (T := TX3) (N := 4) (n := 4) hg lay_3 (hts _ (List.mem_of_getElem? (i := 251) (by decide +kernel)))
  obtain ⟨c4, iS4, hKn4⟩ := u_known (C := RX4) (T := TX4) (N := 2) (n := 2) hg lay_4 (hts _ (List.mem_of_getElem? (i := 382) (by decide +kernel)))
  obtain ⟨c5, iS5, hKn5⟩ := u_known (C := RX5) (T := TX5) (N := 5) (n := 5) hg lay_5 (hts _ (List.mem_of_getElem? (i := 62) (by decide +kernel)))
  obtain ⟨c6, iS6, hKn6⟩ := u_known (C := RX6) (T := TX6) (N := 3) (n := 3) hg lay_6 (hts _ (List.mem_of_getElem? (i := 487) (by decide +kernel)))
  obtain ⟨c7, iS7, hKn7⟩ := u_known (C := RX7) (T := TX7) (N := 8) (n := 8) hg lay_7 (hts _ (List.mem_of_getElem? (i := 47) (by decide +kernel)))
  obtain ⟨a0, hA0⟩ := arr_int (fun C h => by cases h) (hts (Cond.arrayClass .int) (List.mem_of_getElem? (i := 98) (by decide +kernel)))
  obtain ⟨a1, hA1⟩ := arr_int (fun C h => by cases h) (hts (Cond.arrayClass .int) (List.mem_of_getElem? (i := 98) (by decide +kernel)))
  obtain ⟨a2, hA2⟩ := arr_obj (hts (Cond.arrayOver (.object RX3)) (List.mem_of_getElem? (i := 55) (by decide +kernel)))
  obtain ⟨a3, hA3⟩ := arr_obj (hts (Cond.arrayOver (.object RX4)) (List.mem_of_getElem? (i := 57) (by decide +kernel)))
  obtain ⟨a4, hA4⟩ := arr_obj (hts (Cond.arrayOver (.object RX1)) (List.mem_of_getElem? (i := 59) (by decide +kernel)))
  obtain ⟨a5, hA5⟩ := arr_obj (hts (Cond.arrayOver (.object RX5)) (List.mem_of_getElem? (i := 61) (by decide +kernel)))
  obtain ⟨a6, hA6⟩ := arr_obj (hts (Cond.arrayOver (.object RX6)) (List.mem_of_getElem? (i := 68) (by decide +kernel)))
  refine ⟨(fun k => if k = 0 then c0 else if k = 1 then c1 else if k = 2 then c2 else if k = 3 then c3 else if k = 4 then c4 else if k = 5 then c5 else if k = 6 then c6 else c7, fun k => if k = 0 then iS0 else if k = 1 then iS1 else if k = 2 then iS2 else if k = 3 then iS3 else if k = 4 then iS4 else if k = 5 then iS5 else if k = 6 then iS6 else iS7), fun k => if k = 0 then a0 else if k = 1 then a1 else if k = 2 then a2 else if k = 3 then a3 else if k = 4 then a4 else if k = 5 then a5 else a6, ⟨?_, ?_⟩, ?_, ?_, ?_, ?_, ?_, Nat.le_refl _, ?_⟩
  · intro k q hq
    match k, hq with
    | 0, hq => cases hq; exact hKn0
    | 1, hq => cases hq; exact hKn1
    | 2, hq => cases hq; exact hKn2
    | 3, hq => cases hq; exact hKn3
    | 4, hq => cases hq; exact hKn4
    | 5, hq => cases hq; exact hKn5
    | 6, hq => cases hq; exact hKn6
    | 7, hq => cases hq; exact hKn7
    | k + 8, hq => simp [vwCl] at hq
  · intro k q hq
    match k, hq with
    | 0, hq => cases hq; exact hA0
    | 1, hq => cases hq; exact hA1
    | 2, hq => cases hq; exact hA2
    | 3, hq => cases hq; exact hA3
    | 4, hq => cases hq; exact hA4
    | 5, hq => cases hq; exact hA5
    | 6, hq => cases hq; exact hA6
    | k + 7, hq => simp [KT] at hq
  · exact fun w hw => va_Nw.of (ngL_tab hw) (hts w (List.mem_filter.mp hw).1)
  · intro C hC
    refine va_AO.of (A := #[Value.ref b]) (hts _ ?_)
    have h := List.all_eq_true.mp (show aoL.all (fun C => decide (Cond.arrayOver (.object C) ∈ lw_tbl)) = true by decide +kernel) C hC
    simpa using h
  · intro q hq
    have h1 := List.all_eq_true.mp (show strL.all (fun q => decide (Cond.stringRef q.1 q.2.1 q.2.2 ∈ lw_tbl)) = true by decide +kernel) q hq
    have h2 := List.all_eq_true.mp (show strL.all (fun q => decide (Cond.exactly (.string q.1 q.2.1) "java/lang/String" ∈ flatC (Jvm.Cond.and given_1 narrow_1))) = true by decide +kernel) q hq
    simp only [decide_eq_true_eq] at h1 h2
    obtain ⟨a, _, _, _, e1, -⟩ := Cond.exactly_spec (args := #[Value.ref b]) (first := s) (o := none) (s := s) (idx := []) (hs _ h2)
    exact ⟨a, vk_R.of (hts _ h1) e1⟩
  · exact vx_Zqof (args := #[Value.ref b]) (hts _ (List.mem_of_getElem? (i := 193) (by decide +kernel))) (hts _ (List.mem_of_getElem? (i := 34) (by decide +kernel))) (hs _ (by decide +kernel)) (fun a h => Nat.not_le.mpr h)
  · exact vx_Zqof (args := #[Value.ref b]) (hts _ (List.mem_of_getElem? (i := 195) (by decide +kernel))) (hts _ (List.mem_of_getElem? (i := 34) (by decide +kernel))) (hs _ (by decide +kernel)) (fun a h => Nat.not_le.mpr h)
  · intro q hq
    have h2 := List.all_eq_true.mp (show ncL.all (fun q => decide (Cond.not (.castable q.1 q.2) ∈ flatC (Jvm.Cond.and given_1 narrow_1))) = true by decide +kernel) q hq
    simp only [decide_eq_true_eq] at h2
    exact va_Nc.of (hs _ h2)
set_option maxRecDepth 100000 in
set_option maxHeartbeats 4000000 in
theorem whole_start {p : Program} {e : Env} {s : State} {m : MethodId} {below : List Frame} {meth : Method} {c : Code} (l : Launch) (hflags : l.flags = flags0) {b L : Nat} {xs : Nat → Int32} (hL : L ≤ 260) (C0 : lw_At p s m meth c b L xs) : W p l e room_1 s m #[Value.ref b] below meth c s.heap [] 0 0 (lw_Z below #[Value.ref b] s) (entryFrame m ([Value.ref b] : List Value).toArray 23) := by
  obtain ⟨D, cA, hK⟩ := kx_start C0
  obtain ⟨hx, hb, hr, hml, hown, hts, hX, hbl, hlocks, hgv⟩ := id C0
  have hl : l.stackTraces = false := by unfold Launch.stackTraces; rw [hflags]; decide +kernel
  have K : Cx strL D cA s.heap.size p l s m #[Value.ref b] meth c cL_law RL 23 := ⟨hx, hb, hml, hown, fun w hw => hts w (List.mem_filter.mp hw).1, hK, hl, hlocks⟩
  have hlp := lv_entry [Value.ref b] (n := 23) (Nat.le_of_ble_eq_true rfl)
  rw [lg_entry_eq]
  have W0 : Wd D cA s.heap.size (s.heap.size, fun _ => none) s.heap := ⟨rfl, Nat.le_refl _, fun a e h => by cases h⟩
  have hret : ∀ (pc : Nat) (v : Int32) (hp : hpT) (cells slots : Nat) (lv : List (Nat × Value)), decode cL_law pc = .ok (.ireturn, 1) → rtZP (fun v _ => v = 1) v hp → cells ≤ 600104 → slots ≤ 7301314 → GL D cA s.heap.size p l e room_1 s m #[Value.ref b] below meth c 23 (lw_Z below #[Value.ref b] s) cells slots hp pc lv [.int v] := by
    intro pc v hp cells slots lv hd hq hc1 hs1
    obtain ⟨-, hv⟩ := hq
    have hv1 : v = 1 := hv
    subst hv1
    intro H locs ls a1 a2 a3
    refine va_forget a2.2.2 ?_
    refine W.widen (k := 600104) (n := 7301314) hc1 hs1 ?_
    exact lw_ret K.1 K.2.1 hr K.2.2.2.2.2.2.2 hd
  suffices k : GL D cA s.heap.size p l e room_1 s m #[Value.ref b] below meth c 23 (lw_Z below #[Value.ref b] s) 0 0 (s.heap.size, fun _ => none) 0 [(0, .ref b)] [] from k s.heap [] _ W0 va_S.rf hlp
  exact B_L_law_b0 (R := room_1) (mc := 600104) (ms := 7301314) K ⟨rfl, rfl, by decide, by decide⟩ hret hX hbl (Nat.not_le.mpr hbl) (s.heap.size, fun _ => none) 0 0 (law_start (by omega) (fun _ => rfl)) (by decide) (by decide)
