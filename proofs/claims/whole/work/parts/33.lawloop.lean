/-! the law over any invariant: its loop, its start -/
def SC_0 (Inv : (Nat → Option va_E) → Prop) (ax am ao z : Nat) (g : Nat → Option va_E) (v1 v2 v3 : Int32) : Prop := ∃ (k : Int32) (h2 : hpT) (b : Int32) (g3 : Nat → Option va_E), wrap cs_L_pattern (F_X7_pattern ax v1 v2 v3 (z, g)) ao = some (.inl k, h2) ∧ (∃ fs, h2.2 am = some (.inr (8, fs))) ∧ (∀ z1, F_X8_pattern am v1 v2 v3 (z1, h2.2) = some (.inl b, (z1, g3))) ∧ (∀ z1, F_X8_thrown am (z1, g3) = some (.inl k, (z1, g3))) ∧ (k = 0 → ∃ n f, g3 ao = some (.inl (1, n, .inr (.inl f))) ∧ 0 < n ∧ f 0 = b.toInt64) ∧ Inv g3
def SC_1 (Inv : (Nat → Option va_E) → Prop) (ax am ao z : Nat) (g : Nat → Option va_E) (v1 v2 v3 v4 : Int32) : Prop := ∃ (k : Int32) (h2 : hpT) (b : Int32) (g3 : Nat → Option va_E), wrap cs_L_paint (F_X7_paint ax v1 v2 v3 v4 (z, g)) ao = some (.inl k, h2) ∧ (∃ fs, h2.2 am = some (.inr (8, fs))) ∧ (∀ z1, F_X8_paint am v1 v2 v3 v4 (z1, h2.2) = some (.inl b, (z1, g3))) ∧ (∀ z1, F_X8_thrown am (z1, g3) = some (.inl k, (z1, g3))) ∧ (k = 0 → ∃ n f, g3 ao = some (.inl (1, n, .inr (.inl f))) ∧ 0 < n ∧ f 0 = b.toInt64) ∧ Inv g3
def SC_2 (Inv : (Nat → Option va_E) → Prop) (ax am ao z : Nat) (g : Nat → Option va_E) (v1 v2 v3 : Int32) : Prop := ∃ (k : Int32) (h2 : hpT) (b : Int32) (g3 : Nat → Option va_E), wrap cs_L_colour (F_X7_colour ax v1 v2 v3 (z, g)) ao = some (.inl k, h2) ∧ (∃ fs, h2.2 am = some (.inr (8, fs))) ∧ (∀ z1, F_X8_colour am v1 v2 v3 (z1, h2.2) = some (.inl b, (z1, g3))) ∧ (∀ z1, F_X8_thrown am (z1, g3) = some (.inl k, (z1, g3))) ∧ (k = 0 → ∃ n f, g3 ao = some (.inl (1, n, .inr (.inl f))) ∧ 0 < n ∧ f 0 = b.toInt64) ∧ Inv g3
def SC_3 (Inv : (Nat → Option va_E) → Prop) (ax am ao z : Nat) (g : Nat → Option va_E) (v1 v2 : Int32) : Prop := ∃ (k : Int32) (h2 : hpT) (b : Int32) (g3 : Nat → Option va_E), wrap cs_L_repeat (F_X7_repeat ax v1 (if v2 = 0 then 0 else 1) (z, g)) ao = some (.inl k, h2) ∧ (∃ fs, h2.2 am = some (.inr (8, fs))) ∧ (∀ z1, F_X8_repeat am v1 (if v2 = 0 then 0 else 1) (z1, h2.2) = some (.inl b, (z1, g3))) ∧ (∀ z1, F_X8_thrown am (z1, g3) = some (.inl k, (z1, g3))) ∧ (k = 0 → ∃ n f, g3 ao = some (.inl (1, n, .inr (.inl f))) ∧ 0 < n ∧ f 0 = b.toInt64) ∧ Inv g3
def SC_4 (Inv : (Nat → Option va_E) → Prop) (ax am ao z : Nat) (g : Nat → Option va_E) (v1 v2 : Int32) : Prop := ∃ (k : Int32) (h2 : hpT) (b : Int32) (g3 : Nat → Option va_E), wrap cs_L_repeatAnew (F_X7_repeatAnew ax v1 (if v2 = 0 then 0 else 1) (z, g)) ao = some (.inl k, h2) ∧ (∃ fs, h2.2 am = some (.inr (8, fs))) ∧ (∀ z1, F_X8_repeatAnew am v1 (if v2 = 0 then 0 else 1) (z1, h2.2) = some (.inl b, (z1, g3))) ∧ (∀ z1, F_X8_thrown am (z1, g3) = some (.inl k, (z1, g3))) ∧ (k = 0 → ∃ n f, g3 ao = some (.inl (1, n, .inr (.inl f))) ∧ 0 < n ∧ f 0 = b.toInt64) ∧ Inv g3
def SC_5 (Inv : (Nat → Option va_E) → Prop) (ax am ao z : Nat) (g : Nat → Option va_E) (v1 v2 : Int32) : Prop := ∃ (k : Int32) (h2 : hpT) (b : Int32) (g3 : Nat → Option va_E), wrap cs_L_roller (F_X7_roller ax v1 v2 (z, g)) ao = some (.inl k, h2) ∧ (∃ fs, h2.2 am = some (.inr (8, fs))) ∧ (∀ z1, F_X8_roller am v1 v2 (z1, h2.2) = some (.inl b, (z1, g3))) ∧ (∀ z1, F_X8_thrown am (z1, g3) = some (.inl k, (z1, g3))) ∧ (k = 0 → ∃ n f, g3 ao = some (.inl (1, n, .inr (.inl f))) ∧ 0 < n ∧ f 0 = b.toInt64) ∧ Inv g3
def SC_6 (Inv : (Nat → Option va_E) → Prop) (ax am ao z : Nat) (g : Nat → Option va_E) (v1 v2 v3 v4 : Int32) : Prop := ∃ (k : Int32) (h2 : hpT) (b : Int32) (g3 : Nat → Option va_E), wrap cs_L_lot (F_X7_lot ax v1 v2 v3 v4 (z, g)) ao = some (.inl k, h2) ∧ (∃ fs, h2.2 am = some (.inr (8, fs))) ∧ (∀ z1, F_X8_lot am v1 v2 v3 v4 (z1, h2.2) = some (.inl b, (z1, g3))) ∧ (∀ z1, F_X8_thrown am (z1, g3) = some (.inl k, (z1, g3))) ∧ (k = 0 → ∃ n f, g3 ao = some (.inl (1, n, .inr (.inl f))) ∧ 0 < n ∧ f 0 = b.toInt64) ∧ Inv g3
def SC_7 (Inv : (Nat → Option va_E) → Prop) (ax am ao z : Nat) (g : Nat → Option va_E) (v1 v2 : Int32) : Prop := ∃ (k : Int32) (h2 : hpT) (b : Int32) (g3 : Nat → Option va_E), wrap cs_L_lotOf (F_X7_lotOf ax v1 v2 (z, g)) ao = some (.inl k, h2) ∧ (∃ fs, h2.2 am = some (.inr (8, fs))) ∧ (∀ z1, F_X8_lotOf am v1 v2 (z1, h2.2) = some (.inl b, (z1, g3))) ∧ (∀ z1, F_X8_thrown am (z1, g3) = some (.inl k, (z1, g3))) ∧ (k = 0 → ∃ n f, g3 ao = some (.inl (1, n, .inr (.inl f))) ∧ 0 < n ∧ f 0 = b.toInt64) ∧ Inv g3
def SC_8 (Inv : (Nat → Option va_E) → Prop) (ax am ao z : Nat) (g : Nat → Option va_E) (v1 v2 v3 : Int32) : Prop := ∃ (k : Int32) (h2 : hpT) (b : Int32) (g3 : Nat → Option va_E), wrap cs_L_wall (F_X7_wall ax v1 v2 v3 (z, g)) ao = some (.inl k, h2) ∧ (∃ fs, h2.2 am = some (.inr (8, fs))) ∧ (∀ z1, F_X8_wall am v1 v2 v3 (z1, h2.2) = some (.inl b, (z1, g3))) ∧ (∀ z1, F_X8_thrown am (z1, g3) = some (.inl k, (z1, g3))) ∧ (k = 0 → ∃ n f, g3 ao = some (.inl (1, n, .inr (.inl f))) ∧ 0 < n ∧ f 0 = b.toInt64) ∧ Inv g3
def SC_9 (Inv : (Nat → Option va_E) → Prop) (ax am ao z : Nat) (g : Nat → Option va_E) (v1 v2 : Int32) : Prop := ∃ (k : Int32) (h2 : hpT) (b : Int32) (g3 : Nat → Option va_E), wrap cs_L_hang (F_X7_hang ax v1 v2 (z, g)) ao = some (.inl k, h2) ∧ (∃ fs, h2.2 am = some (.inr (8, fs))) ∧ (∀ z1, F_X8_hang am v1 v2 (z1, h2.2) = some (.inl b, (z1, g3))) ∧ (∀ z1, F_X8_thrown am (z1, g3) = some (.inl k, (z1, g3))) ∧ (k = 0 → ∃ n f, g3 ao = some (.inl (1, n, .inr (.inl f))) ∧ 0 < n ∧ f 0 = b.toInt64) ∧ Inv g3
def SC_10 (Inv : (Nat → Option va_E) → Prop) (ax am ao z : Nat) (g : Nat → Option va_E) (v1 v2 v3 : Int32) : Prop := ∃ (k : Int32) (h2 : hpT) (b : Int32) (g3 : Nat → Option va_E), wrap cs_L_lengthen (F_X7_lengthen ax v1 v2 v3 (z, g)) ao = some (.inl k, h2) ∧ (∃ fs, h2.2 am = some (.inr (8, fs))) ∧ (∀ z1, F_X8_lengthen am v1 v2 v3 (z1, h2.2) = some (.inl b, (z1, g3))) ∧ (∀ z1, F_X8_thrown am (z1, g3) = some (.inl k, (z1, g3))) ∧ (k = 0 → ∃ n f, g3 ao = some (.inl (1, n, .inr (.inl f))) ∧ 0 < n ∧ f 0 = b.toInt64) ∧ Inv g3
def SC_11 (Inv : (Nat → Option va_E) → Prop) (ax am ao z : Nat) (g : Nat → Option va_E) (v1 : Int32) : Prop := ∃ (k : Int32) (h2 : hpT) (b : Int32) (g3 : Nat → Option va_E), wrap cs_L_strip (F_X7_strip ax v1 (z, g)) ao = some (.inl k, h2) ∧ (∃ fs, h2.2 am = some (.inr (8, fs))) ∧ (∀ z1, F_X8_strip am v1 (z1, h2.2) = some (.inl b, (z1, g3))) ∧ (∀ z1, F_X8_thrown am (z1, g3) = some (.inl k, (z1, g3))) ∧ (k = 0 → ∃ n f, g3 ao = some (.inl (1, n, .inr (.inl f))) ∧ 0 < n ∧ f 0 = b.toInt64) ∧ Inv g3
def SC_12 (Inv : (Nat → Option va_E) → Prop) (ax am ao z : Nat) (g : Nat → Option va_E) (v1 v2 : Int32) : Prop := ∃ (k : Int32) (h2 : hpT) (b : Int32) (g3 : Nat → Option va_E), wrap cs_L_room (F_X7_room ax v1 v2 (z, g)) ao = some (.inl k, h2) ∧ (∃ fs, h2.2 am = some (.inr (8, fs))) ∧ (∀ z1, F_X8_room am v1 v2 (z1, h2.2) = some (.inl b, (z1, g3))) ∧ (∀ z1, F_X8_thrown am (z1, g3) = some (.inl k, (z1, g3))) ∧ (k = 0 → ∃ n f, g3 ao = some (.inl (1, n, .inr (.inl f))) ∧ 0 < n ∧ f 0 = b.toInt64) ∧ Inv g3
def SC_13 (Inv : (Nat → Option va_E) → Prop) (ax am ao z : Nat) (g : Nat → Option va_E) (v1 v2 v3 : Int32) : Prop := ∃ (k : Int32) (h2 : hpT) (b : Int32) (g3 : Nat → Option va_E), wrap cs_L_cut (F_X7_cut ax v1 v2 v3 (z, g)) ao = some (.inl k, h2) ∧ (∃ fs, h2.2 am = some (.inr (8, fs))) ∧ (∀ z1, F_X8_cut am v1 v2 v3 (z1, h2.2) = some (.inl b, (z1, g3))) ∧ (∀ z1, F_X8_thrown am (z1, g3) = some (.inl k, (z1, g3))) ∧ (k = 0 → ∃ n f, g3 ao = some (.inl (1, n, .inr (.inl f))) ∧ 0 < n ∧ f 0 = b.toInt64) ∧ Inv g3
def SC_14 (Inv : (Nat → Option va_E) → Prop) (ax am ao z : Nat) (g : Nat → Option va_E) (v1 v2 v3 v4 : Int32) : Prop := ∃ (k : Int32) (h2 : hpT) (b : Int32) (g3 : Nat → Option va_E), wrap cs_L_seen (F_X7_seen ax v1 v2 v3 v4 (z, g)) ao = some (.inl k, h2) ∧ (∃ fs, h2.2 am = some (.inr (8, fs))) ∧ (∀ z1, F_X8_seen am v1 v2 v3 v4 (z1, h2.2) = some (.inl b, (z1, g3))) ∧ (∀ z1, F_X8_thrown am (z1, g3) = some (.inl k, (z1, g3))) ∧ (k = 0 → ∃ n f, g3 ao = some (.inl (1, n, .inr (.inl f))) ∧ 0 < n ∧ f 0 = b.toInt64) ∧ Inv g3
def SC_15 (Inv : (Nat → Option va_E) → Prop) (ax am ao z : Nat) (g : Nat → Option va_E) : Prop := ∃ (v : Int32) (h2 h3 : hpT), F_X7_lost ax (z, g) = some (.inl v, h2) ∧ (∃ fs, h2.2 am = some (.inr (8, fs))) ∧ F_X8_lost am h2 = some (.inl v, h3) ∧ Inv h3.2
def SCs (Inv : (Nat → Option va_E) → Prop) (ax am ao z : Nat) (g : Nat → Option va_E) : Prop := (∀ v1 v2 v3 : Int32, SC_0 Inv ax am ao z g v1 v2 v3) ∧ (∀ v1 v2 v3 v4 : Int32, SC_1 Inv ax am ao z g v1 v2 v3 v4) ∧ (∀ v1 v2 v3 : Int32, SC_2 Inv ax am ao z g v1 v2 v3) ∧ (∀ v1 v2 : Int32, SC_3 Inv ax am ao z g v1 v2) ∧ (∀ v1 v2 : Int32, SC_4 Inv ax am ao z g v1 v2) ∧ (∀ v1 v2 : Int32, SC_5 Inv ax am ao z g v1 v2) ∧ (∀ v1 v2 v3 v4 : Int32, SC_6 Inv ax am ao z g v1 v2 v3 v4) ∧ (∀ v1 v2 : Int32, SC_7 Inv ax am ao z g v1 v2) ∧ (∀ v1 v2 v3 : Int32, SC_8 Inv ax am ao z g v1 v2 v3) ∧ (∀ v1 v2 : Int32, SC_9 Inv ax am ao z g v1 v2) ∧ (∀ v1 v2 v3 : Int32, SC_10 Inv ax am ao z g v1 v2 v3) ∧ (∀ v1 : Int32, SC_11 Inv ax am ao z g v1) ∧ (∀ v1 v2 : Int32, SC_12 Inv ax am ao z g v1 v2) ∧ (∀ v1 v2 v3 : Int32, SC_13 Inv ax am ao z g v1 v2 v3) ∧ (∀ v1 v2 v3 v4 : Int32, SC_14 Inv ax am ao z g v1 v2 v3 v4) ∧ SC_15 Inv ax am ao z g
def R_law : String := "RollerLeafLaw"
def lw_P (b : Addr) (xs : List Int32) (args : Array Value) (s : State) : Prop := args = #[.ref b] ∧ s.IntsAt b xs ∧ xs.length ≤ 2560 ∧ (Jvm.Cond.and given_1 narrow_1).before args s = true
def lw_Q (_ : Array Value) (s : State) (o : Outcome) (t : State) : Prop := o = .returned (some (.int 1)) ∧ Framed s o t [] 601024 7293034
def lw_Z (below : List Frame) (a : Array Value) (s : State) : State → Prop := fun t => ∃ o, t.status = .running ∧ Ended t below o ∧ lw_Q a s o t
/-- the law's own end, with 1 on the stack, nothing written that was there before, its room as the claim has it -/
theorem lw_ret {p : Program} {l : Launch} {e : Env} {s : State} {m : MethodId} {below : List Frame} {meth : Method} {c : Code} {b : Nat} (hx : p.tables.exec = Jvm.exec) (hb : c.code = code) (hr : meth.sig.returnType = ret) (hlocks : meth.locks = false) {pc : Nat} {H : Heap} {ls : Array Slot} (hdg : decode code pc = .ok (.ireturn, 1)) : W p l e room_1 s m #[Value.ref b] below meth c H [] 601024 7293034 (lw_Z below #[Value.ref b] s) (F0 m pc ls [.int 1]) := by
  intro T hT X
  obtain ⟨fs, hret, hrun, hended, hW, hframe⟩ := X.leave (v := some (.int 1)) (hlocks := hlocks) (fun h => by rw [hr] at h; cases h)
  have hmeth' : T.vm.method? m = some meth := X.method'
  refine ⟨T.setFrames fs, ?_, .returned (some (.int 1)), hrun, hended, rfl, ⟨_, rfl⟩, hW, hframe⟩
  jvm_step X.here [X.here.top, hx, hb, hdg, hmeth', hr, ret, narrow_b1]
  (try refine ⟨rfl, ?_⟩); (try refine ⟨rfl, ?_⟩)
  first | (intro acts; rw [hret _ acts rfl rfl rfl]) | rw [hret _ _ rfl rfl rfl]
  exact Steps.refl _
/-- what holds at the law's entry: the machine, the code, the tables' words (any of lw_tbl by 'hts w (by decide +kernel)'), the script of L ints xs at the cell b, what the Statement gives of the start (any of its parts by flat_of_before) -/
def lw_At (p : Program) (s : State) (m : MethodId) (meth : Method) (c : Code) (b L : Nat) (xs : Nat → Int32) : Prop :=
  p.tables.exec = Jvm.exec ∧ c.code = code ∧ meth.sig.returnType = ret ∧ c.maxLocals = 7 ∧ s.vm.findClass R_law = some m.cls ∧ (∀ w ∈ lw_tbl, w.before #[Value.ref b] s = true) ∧ va_X b L xs s s.heap ∧ b < s.heap.size ∧ meth.locks = false ∧ (Jvm.Cond.and given_1 narrow_1).before #[Value.ref b] s = true
theorem fa_lt9 (a b : Int32) : a < b ↔ a.toInt < b.toInt := Int32.lt_iff_toInt_lt
theorem script_in {L j k : Nat} (hL : L ≤ 2560) (h : 5 * j + 5 ≤ L) (hk : k < 5) : vp_in (nI (5 * j) + nI k) L := by
  rw [nI_add]
  exact vp_in_nI (by omega) (by omega)
theorem law_gt {L j : Nat} (hL : L ≤ 2560) (hj : j ≤ 512) : (nI L - 5 < nI (5 * j)) ↔ L < 5 * j + 5 := by
  rw [fa_lt9, show (5 : Int32) = nI 5 from rfl, pk_sub_toInt (by omega) (by decide), nI_toInt (by omega)]
  omega
section
variable {D : va_G} {cA : Nat → ClassId} {h0 : Nat} {p : Program} {l : Launch} {e : Env} {s : State} {m : MethodId} {args : Array Value} {below : List Frame} {meth : Method} {c : Code}
set_option maxRecDepth 100000 in
set_option maxHeartbeats 4000000 in
theorem law_loop (K : Cx strL D cA h0 p l s m args meth c cL_law RL 7) (hr : meth.sig.returnType = ret) (hh0 : h0 = s.heap.size) {b0 L ax am ao : Nat} {xs : Nat → Int32} (hargs : args = #[Value.ref b0]) (hL : L ≤ 2560) (hX : va_X b0 L xs s s.heap) (hbl : b0 < s.heap.size) {Inv : (Nat → Option va_E) → Prop} (hI : ∀ g, Inv g → (∃ fs, g ax = some (.inr (7, fs))) ∧ (∃ fs, g am = some (.inr (8, fs)))) (hst : ∀ z g, Inv g → (∀ a e, g a = some e → a < z) → SCs Inv ax am ao z g) :
    ∀ (n j : Nat), L < 5 * j + n → j ≤ 512 → ∀ (z : Nat) (g : Nat → Option va_E), Inv g → G D cA h0 p l e room_1 s m args below meth c 7 (lw_Z below #[Value.ref b0] s) (56 + 6 * j) (2251 + 125 * j) (z, g) 23 [some (va_rf (some b0)), some (va_rf (some ax)), some (va_rf (some am)), some (va_rf (some ao)), some (.int (nI (5 * j))), none, none] [] := by
  have hbA : ¬ Af h0 b0 := by rw [hh0]; exact Nat.not_le.mpr hbl
  intro n
  induction n with
  | zero =>
    intro j hn hj z g hg
    refine r_iload (pc := 23) K dL_law_23 rfl ?_
    refine r_aload_n (pc := 25) K dL_law_25 rfl ?_
    refine r_slen (pc := 26) K hX hbl hbA dL_law_26 ?_
    refine r_iconst (pc := 27) (v := 5) K dL_law_27 (by decide) ?_
    refine r_isub (pc := 28) K dL_law_28 ?_
    refine q_icmp_gt (pc := 29) (tgt := 1307) K dL_law_29 (by decide) (fun q => ?_) (fun q => ?_)
    · intro H locs ls a1 a2 a3
      subst hh0 hargs
      refine va_forget a2.2.2 ?_
      refine W.widen (k := 601024) (n := 7293034) (by omega) (by omega) ?_
      refine lv_iconst (v := 1) K.1 K.2.1 dL_law_1307 (by decide) ?_
      exact lw_ret K.1 K.2.1 hr K.2.2.2.2.2.2.2 dL_law_1308
    · exact absurd ((law_gt hL hj).mpr (by omega)) q
  | succ n ih =>
    intro j hn hj z g hg
    refine r_fresh (fun hfr => ?_)
    have hs := hst z g hg hfr
    refine r_iload (pc := 23) K dL_law_23 rfl ?_
    refine r_aload_n (pc := 25) K dL_law_25 rfl ?_
    refine r_slen (pc := 26) K hX hbl hbA dL_law_26 ?_
    refine r_iconst (pc := 27) (v := 5) K dL_law_27 (by decide) ?_
    refine r_isub (pc := 28) K dL_law_28 ?_
    refine q_icmp_gt (pc := 29) (tgt := 1307) K dL_law_29 (by decide) (fun q => ?_) (fun q => ?_)
    · intro H locs ls a1 a2 a3
      subst hh0 hargs
      refine va_forget a2.2.2 ?_
      refine W.widen (k := 601024) (n := 7293034) (by omega) (by omega) ?_
      refine lv_iconst (v := 1) K.1 K.2.1 dL_law_1307 (by decide) ?_
      exact lw_ret K.1 K.2.1 hr K.2.2.2.2.2.2.2 dL_law_1308
    have hj5 : 5 * j + 5 ≤ L := by
      have := mt (law_gt hL hj).mpr q
      omega
    have next : ∀ z1 g3, Inv g3 → G D cA h0 p l e room_1 s m args below meth c 7 (lw_Z below #[Value.ref b0] s) (56 + 6 * j + 6) (2251 + 125 * j + 125) (z1, g3) 1301 [some (va_rf (some b0)), some (va_rf (some ax)), some (va_rf (some am)), some (va_rf (some ao)), some (.int (nI (5 * j))), none, none] [] := by
      intro z1 g3 hg3
      refine r_iinc (pc := 1301) (v := nI (5 * (j + 1))) (lv' := [some (va_rf (some b0)), some (va_rf (some ax)), some (va_rf (some am)), some (va_rf (some ao)), some (.int (nI (5 * (j + 1)))), none, none]) K dL_law_1301 rfl (by rw [show 5 * (j + 1) = 5 * j + 5 by omega, ← nI_add]; rfl) (by decide) rfl ?_
      refine r_goto (pc := 1304) (tgt := 23) K dL_law_1304 (by decide) ?_
      exact r_widen (by omega) (by omega) (ih (j + 1) (by omega) (by omega) z1 g3 hg3)
    refine r_aload_n (pc := 32) K dL_law_32 rfl ?_
    refine r_iload (pc := 33) K dL_law_33 rfl ?_
    refine r_sld (pc := 35) K hX hbl hbA (vp_in_nI (by omega) (by omega)) dL_law_35 ?_
    refine r_bipush (pc := 36) (v := 15) K dL_law_36 (by decide) ?_
    refine r_iand (pc := 38) K dL_law_38 ?_
    obtain ⟨j16, hj16, e15⟩ := pk_andE (xs (nI (5 * j)).toNatClampNeg) (m := 15) 4 (by decide)
    have hj16 : j16 < 16 := hj16
    rcases (show j16 = 0 ∨ j16 = 1 ∨ j16 = 2 ∨ j16 = 3 ∨ j16 = 4 ∨ j16 = 5 ∨ j16 = 6 ∨ j16 = 7 ∨ j16 = 8 ∨ j16 = 9 ∨ j16 = 10 ∨ j16 = 11 ∨ j16 = 12 ∨ j16 = 13 ∨ j16 = 14 ∨ j16 = 15 by omega) with rfl | rfl | rfl | rfl | rfl | rfl | rfl | rfl | rfl | rfl | rfl | rfl | rfl | rfl | rfl | rfl
    · refine r_tswIn (pc := 39) (v := 0) (off := 77) (tgt := 116) K e15 dL_law_39 (by decide) (by decide) (by decide) (by decide) ?_
      obtain ⟨k9, h2, b9, g3, w1, w2, w3, w4, w5, w6⟩ := hs.1 (xs (nI (5 * j) + 1).toNatClampNeg) (xs (nI (5 * j) + 2).toNatClampNeg) (xs (nI (5 * j) + 3).toNatClampNeg)
      refine LC_0 (L := L) (xs := xs) K (by omega) (by omega) hX hbl hbA (script_in hL hj5 (k := 1) (by decide)) (script_in hL hj5 (k := 2) (by decide)) (script_in hL hj5 (k := 3) (by decide)) (hI g hg).1 w2 (hI g3 w6).2 w1 w3 w4 w5 (fun z1 => ?_)
      exact next z1 g3 w6
    · refine r_tswIn (pc := 39) (v := 1) (off := 157) (tgt := 196) K e15 dL_law_39 (by decide) (by decide) (by decide) (by decide) ?_
      obtain ⟨k9, h2, b9, g3, w1, w2, w3, w4, w5, w6⟩ := hs.2.1 (xs (nI (5 * j) + 1).toNatClampNeg) (xs (nI (5 * j) + 2).toNatClampNeg) (xs (nI (5 * j) + 3).toNatClampNeg) (xs (nI (5 * j) + 4).toNatClampNeg)
      refine LC_1 (L := L) (xs := xs) K (by omega) (by omega) hX hbl hbA (script_in hL hj5 (k := 1) (by decide)) (script_in hL hj5 (k := 2) (by decide)) (script_in hL hj5 (k := 3) (by decide)) (script_in hL hj5 (k := 4) (by decide)) (hI g hg).1 w2 (hI g3 w6).2 w1 w3 w4 w5 (fun z1 => ?_)
      exact next z1 g3 w6
    · refine r_tswIn (pc := 39) (v := 2) (off := 249) (tgt := 288) K e15 dL_law_39 (by decide) (by decide) (by decide) (by decide) ?_
      obtain ⟨k9, h2, b9, g3, w1, w2, w3, w4, w5, w6⟩ := hs.2.2.1 (xs (nI (5 * j) + 1).toNatClampNeg) (xs (nI (5 * j) + 2).toNatClampNeg) (xs (nI (5 * j) + 3).toNatClampNeg)
      refine LC_2 (L := L) (xs := xs) K (by omega) (by omega) hX hbl hbA (script_in hL hj5 (k := 1) (by decide)) (script_in hL hj5 (k := 2) (by decide)) (script_in hL hj5 (k := 3) (by decide)) (hI g hg).1 w2 (hI g3 w6).2 w1 w3 w4 w5 (fun z1 => ?_)
      exact next z1 g3 w6
    · refine r_tswIn (pc := 39) (v := 3) (off := 329) (tgt := 368) K e15 dL_law_39 (by decide) (by decide) (by decide) (by decide) ?_
      obtain ⟨k9, h2, b9, g3, w1, w2, w3, w4, w5, w6⟩ := hs.2.2.2.1 (xs (nI (5 * j) + 1).toNatClampNeg) (xs (nI (5 * j) + 2).toNatClampNeg)
      refine LC_3 (L := L) (xs := xs) K (by omega) (by omega) hX hbl hbA (script_in hL hj5 (k := 1) (by decide)) (script_in hL hj5 (k := 2) (by decide)) (hI g hg).1 w2 (hI g3 w6).2 w1 w3 w4 w5 (fun z1 => ?_)
      exact next z1 g3 w6
    · refine r_tswIn (pc := 39) (v := 4) (off := 413) (tgt := 452) K e15 dL_law_39 (by decide) (by decide) (by decide) (by decide) ?_
      obtain ⟨k9, h2, b9, g3, w1, w2, w3, w4, w5, w6⟩ := hs.2.2.2.2.1 (xs (nI (5 * j) + 1).toNatClampNeg) (xs (nI (5 * j) + 2).toNatClampNeg)
      refine LC_4 (L := L) (xs := xs) K (by omega) (by omega) hX hbl hbA (script_in hL hj5 (k := 1) (by decide)) (script_in hL hj5 (k := 2) (by decide)) (hI g hg).1 w2 (hI g3 w6).2 w1 w3 w4 w5 (fun z1 => ?_)
      exact next z1 g3 w6
    · refine r_tswIn (pc := 39) (v := 5) (off := 497) (tgt := 536) K e15 dL_law_39 (by decide) (by decide) (by decide) (by decide) ?_
      obtain ⟨k9, h2, b9, g3, w1, w2, w3, w4, w5, w6⟩ := hs.2.2.2.2.2.1 (xs (nI (5 * j) + 1).toNatClampNeg) (xs (nI (5 * j) + 2).toNatClampNeg)
      refine LC_5 (L := L) (xs := xs) K (by omega) (by omega) hX hbl hbA (script_in hL hj5 (k := 1) (by decide)) (script_in hL hj5 (k := 2) (by decide)) (hI g hg).1 w2 (hI g3 w6).2 w1 w3 w4 w5 (fun z1 => ?_)
      exact next z1 g3 w6
    · refine r_tswIn (pc := 39) (v := 6) (off := 565) (tgt := 604) K e15 dL_law_39 (by decide) (by decide) (by decide) (by decide) ?_
      obtain ⟨k9, h2, b9, g3, w1, w2, w3, w4, w5, w6⟩ := hs.2.2.2.2.2.2.1 (xs (nI (5 * j) + 1).toNatClampNeg) (xs (nI (5 * j) + 2).toNatClampNeg) (xs (nI (5 * j) + 3).toNatClampNeg) (xs (nI (5 * j) + 4).toNatClampNeg)
      refine LC_6 (L := L) (xs := xs) K (by omega) (by omega) hX hbl hbA (script_in hL hj5 (k := 1) (by decide)) (script_in hL hj5 (k := 2) (by decide)) (script_in hL hj5 (k := 3) (by decide)) (script_in hL hj5 (k := 4) (by decide)) (hI g hg).1 w2 (hI g3 w6).2 w1 w3 w4 w5 (fun z1 => ?_)
      exact next z1 g3 w6
    · refine r_tswIn (pc := 39) (v := 7) (off := 657) (tgt := 696) K e15 dL_law_39 (by decide) (by decide) (by decide) (by decide) ?_
      obtain ⟨k9, h2, b9, g3, w1, w2, w3, w4, w5, w6⟩ := hs.2.2.2.2.2.2.2.1 (xs (nI (5 * j) + 1).toNatClampNeg) (xs (nI (5 * j) + 2).toNatClampNeg)
      refine LC_7 (L := L) (xs := xs) K (by omega) (by omega) hX hbl hbA (script_in hL hj5 (k := 1) (by decide)) (script_in hL hj5 (k := 2) (by decide)) (hI g hg).1 w2 (hI g3 w6).2 w1 w3 w4 w5 (fun z1 => ?_)
      exact next z1 g3 w6
    · refine r_tswIn (pc := 39) (v := 8) (off := 725) (tgt := 764) K e15 dL_law_39 (by decide) (by decide) (by decide) (by decide) ?_
      obtain ⟨k9, h2, b9, g3, w1, w2, w3, w4, w5, w6⟩ := hs.2.2.2.2.2.2.2.2.1 (xs (nI (5 * j) + 1).toNatClampNeg) (xs (nI (5 * j) + 2).toNatClampNeg) (xs (nI (5 * j) + 3).toNatClampNeg)
      refine LC_8 (L := L) (xs := xs) K (by omega) (by omega) hX hbl hbA (script_in hL hj5 (k := 1) (by decide)) (script_in hL hj5 (k := 2) (by decide)) (script_in hL hj5 (k := 3) (by decide)) (hI g hg).1 w2 (hI g3 w6).2 w1 w3 w4 w5 (fun z1 => ?_)
      exact next z1 g3 w6
    · refine r_tswIn (pc := 39) (v := 9) (off := 805) (tgt := 844) K e15 dL_law_39 (by decide) (by decide) (by decide) (by decide) ?_
      obtain ⟨k9, h2, b9, g3, w1, w2, w3, w4, w5, w6⟩ := hs.2.2.2.2.2.2.2.2.2.1 (xs (nI (5 * j) + 1).toNatClampNeg) (xs (nI (5 * j) + 2).toNatClampNeg)
      refine LC_9 (L := L) (xs := xs) K (by omega) (by omega) hX hbl hbA (script_in hL hj5 (k := 1) (by decide)) (script_in hL hj5 (k := 2) (by decide)) (hI g hg).1 w2 (hI g3 w6).2 w1 w3 w4 w5 (fun z1 => ?_)
      exact next z1 g3 w6
    · refine r_tswIn (pc := 39) (v := 10) (off := 873) (tgt := 912) K e15 dL_law_39 (by decide) (by decide) (by decide) (by decide) ?_
      obtain ⟨k9, h2, b9, g3, w1, w2, w3, w4, w5, w6⟩ := hs.2.2.2.2.2.2.2.2.2.2.1 (xs (nI (5 * j) + 1).toNatClampNeg) (xs (nI (5 * j) + 2).toNatClampNeg) (xs (nI (5 * j) + 3).toNatClampNeg)
      refine LC_10 (L := L) (xs := xs) K (by omega) (by omega) hX hbl hbA (script_in hL hj5 (k := 1) (by decide)) (script_in hL hj5 (k := 2) (by decide)) (script_in hL hj5 (k := 3) (by decide)) (hI g hg).1 w2 (hI g3 w6).2 w1 w3 w4 w5 (fun z1 => ?_)
      exact next z1 g3 w6
    · refine r_tswIn (pc := 39) (v := 11) (off := 953) (tgt := 992) K e15 dL_law_39 (by decide) (by decide) (by decide) (by decide) ?_
      obtain ⟨k9, h2, b9, g3, w1, w2, w3, w4, w5, w6⟩ := hs.2.2.2.2.2.2.2.2.2.2.2.1 (xs (nI (5 * j) + 1).toNatClampNeg)
      refine LC_11 (L := L) (xs := xs) K (by omega) (by omega) hX hbl hbA (script_in hL hj5 (k := 1) (by decide)) (hI g hg).1 w2 (hI g3 w6).2 w1 w3 w4 w5 (fun z1 => ?_)
      exact next z1 g3 w6
    · refine r_tswIn (pc := 39) (v := 12) (off := 1009) (tgt := 1048) K e15 dL_law_39 (by decide) (by decide) (by decide) (by decide) ?_
      obtain ⟨k9, h2, b9, g3, w1, w2, w3, w4, w5, w6⟩ := hs.2.2.2.2.2.2.2.2.2.2.2.2.1 (xs (nI (5 * j) + 1).toNatClampNeg) (xs (nI (5 * j) + 2).toNatClampNeg)
      refine LC_12 (L := L) (xs := xs) K (by omega) (by omega) hX hbl hbA (script_in hL hj5 (k := 1) (by decide)) (script_in hL hj5 (k := 2) (by decide)) (hI g hg).1 w2 (hI g3 w6).2 w1 w3 w4 w5 (fun z1 => ?_)
      exact next z1 g3 w6
    · refine r_tswIn (pc := 39) (v := 13) (off := 1077) (tgt := 1116) K e15 dL_law_39 (by decide) (by decide) (by decide) (by decide) ?_
      obtain ⟨k9, h2, b9, g3, w1, w2, w3, w4, w5, w6⟩ := hs.2.2.2.2.2.2.2.2.2.2.2.2.2.1 (xs (nI (5 * j) + 1).toNatClampNeg) (xs (nI (5 * j) + 2).toNatClampNeg) (xs (nI (5 * j) + 3).toNatClampNeg)
      refine LC_13 (L := L) (xs := xs) K (by omega) (by omega) hX hbl hbA (script_in hL hj5 (k := 1) (by decide)) (script_in hL hj5 (k := 2) (by decide)) (script_in hL hj5 (k := 3) (by decide)) (hI g hg).1 w2 (hI g3 w6).2 w1 w3 w4 w5 (fun z1 => ?_)
      exact next z1 g3 w6
    · refine r_tswIn (pc := 39) (v := 14) (off := 1157) (tgt := 1196) K e15 dL_law_39 (by decide) (by decide) (by decide) (by decide) ?_
      obtain ⟨k9, h2, b9, g3, w1, w2, w3, w4, w5, w6⟩ := hs.2.2.2.2.2.2.2.2.2.2.2.2.2.2.1 (xs (nI (5 * j) + 1).toNatClampNeg) (xs (nI (5 * j) + 2).toNatClampNeg) (xs (nI (5 * j) + 3).toNatClampNeg) (xs (nI (5 * j) + 4).toNatClampNeg)
      refine LC_14 (L := L) (xs := xs) K (by omega) (by omega) hX hbl hbA (script_in hL hj5 (k := 1) (by decide)) (script_in hL hj5 (k := 2) (by decide)) (script_in hL hj5 (k := 3) (by decide)) (script_in hL hj5 (k := 4) (by decide)) (hI g hg).1 w2 (hI g3 w6).2 w1 w3 w4 w5 (fun z1 => ?_)
      exact next z1 g3 w6
    · refine r_tswIn (pc := 39) (v := 15) (off := 1249) (tgt := 1288) K e15 dL_law_39 (by decide) (by decide) (by decide) (by decide) ?_
      obtain ⟨v9, h2, h3, w1, w2, w3, w4⟩ := hs.2.2.2.2.2.2.2.2.2.2.2.2.2.2.2
      refine LC_15 K (by omega) (by omega) (hI g hg).1 w2 w1 w3 ?_
      exact next h3.1 h3.2 w4
end
