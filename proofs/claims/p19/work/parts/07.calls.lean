/-! method entries, ends, throws, calls -/
theorem Kx.calling {strs : List (String × Nat × String)} {D : va_G} {cA : Nat → ClassId} {h0 : Nat} {hp : hpT} {U : State} (g : JFrame) (mk : MethodId) (a : Array Value) (h : Pre strs D cA h0 hp U) : Pre strs D cA h0 hp (U.calling g mk a) := ⟨h.1, h.2.to (U := U.calling g mk a) (State.WarmedH.refl U) (Nat.le_refl _) (fun _ _ _ => rfl)⟩
theorem pre_blind {strs : List (String × Nat × String)} {D : va_G} {cA : Nat → ClassId} {h0 : Nat} {hp : hpT} {av : List Value} : FrameBlind (va_Pc av (Pre strs D cA h0 hp)) := fun a U g mk q => ⟨q.1, Kx.calling g mk a q.2⟩
theorem lv1_args : ∀ (vs : List Value) (i : Nat), (∀ v ∈ vs, v.category = 1) → ∀ (j : Nat) (v : Value), vs[j]? = some v → (i + j, v) ∈ lv_args i vs
  | [], i, hc, j, v, h => by simp at h
  | w :: vs, i, hc, j, v, h => by
    unfold lv_args
    have h1 : ¬ w.category = 2 := by rw [hc w List.mem_cons_self]; decide
    rw [if_neg h1]
    cases j with
    | zero =>
      simp only [List.getElem?_cons_zero, Option.some.injEq] at h
      subst h
      exact List.mem_cons_self
    | succ j =>
      have := lv1_args vs (i + 1) (fun v hv => hc v (List.mem_cons_of_mem _ hv)) j v (by simpa using h)
      rw [show i + (j + 1) = i + 1 + j by omega]
      exact List.mem_cons_of_mem _ this
theorem lvP_entry (vs : List Value) {n : Nat} (hc : ∀ v ∈ vs, v.category = 1) (h : (lg_sl vs).length ≤ n) : lvP ((lg_sl vs ++ List.replicate (n - (lg_sl vs).length) Slot.unset).toArray) n (vs.map some ++ List.replicate (n - vs.length) none) := by
  obtain ⟨h1, h2, h3⟩ := lv_entry vs h
  refine ⟨h1, h2, fun i v hi => ?_⟩
  by_cases hl : i < vs.length
  · rw [List.getElem?_append_left (by simpa using hl), List.getElem?_map] at hi
    cases hv : vs[i]? with
    | none => rw [hv] at hi; cases hi
    | some w =>
      rw [hv] at hi
      have e9 : w = v := by simpa using hi
      subst e9
      have := lv1_args vs 0 hc i _ hv
      rw [Nat.zero_add] at this
      exact ⟨hc _ (List.mem_of_getElem? hv), h3 (i, _) this⟩
  · rw [List.getElem?_append_right (by simpa using Nat.le_of_not_lt hl), List.getElem?_replicate] at hi
    split at hi <;> cases hi
def wsm (y : MethodName) (cc : ByteArray) (n : Nat) (rt : Option FieldType) : List Cond := Cond.code y cc n rt :: gdL
theorem vx_ofWF {l : Launch} {y : MethodName} {ws ws' : List Cond} {rm : Room} {Pc : Array Value → State → Prop} {Qc : Array Value → State → Outcome → State → Prop} {XC : String → State → State → Prop} {mc ms : Nat} {free : Addr → Prop} {cc : ByteArray} {maxL : Nat} {ret : Option FieldType}
    (hy : plainFor y = true) (hw : ws = Cond.code y cc maxL ret :: ws')
    (body : ∀ p e s m args below meth c s₁, BodyLoose p l y (headSpec ws rm) cc maxL ret e s m args below meth c s₁ → c.maxLocals = maxL → (∀ x ∈ c.exceptionTable.toList, False) → Pc args s →
      W p l e (headSpec ws rm).room s m args below meth c s.heap [] 0 0 (vx_MQ below Qc XC args s mc ms free) (entryFrame m args maxL)) : vx_Met l y ws rm Pc Qc XC mc ms free := by
  refine MetFree.of_bodySF (code := cc) (maxLocals := maxL) (ret := ret) hy ?_ ?_
  · intro args s m h hn
    obtain ⟨meth, c, h1, h2, h3, h4, h5, h6, -, -⟩ := Cond.code_spec hn (atoms_spec (ws := ws) h _ (by rw [hw]; exact List.mem_cons_self))
    exact ⟨meth, c, h1, h2, h3, h4, h5, h6⟩
  · intro p e s m args below meth c s₁ B hml hP _
    have hh0 : s₁.heap = s.heap := by rw [B.state]; rfl
    have ht : ∀ x ∈ c.exceptionTable.toList, False := by
      obtain ⟨meth9, c9, h1, h2, -, -, -, -, h7, -⟩ := Cond.code_spec B.named (atoms_spec (ws := ws) B.pre _ (by rw [hw]; exact List.mem_cons_self))
      cases Option.some.inj (h1.symm.trans B.method)
      cases Option.some.inj (h2.symm.trans (Stand.of_body B).code)
      intro x hx
      rw [Array.isEmpty_iff.mp h7] at hx
      cases hx
    obtain ⟨t, a1, o, b1, b2, b3⟩ := body p e s m args below meth c s₁ B hml ht hP s₁ hh0 (Stand.of_body B)
    exact ⟨t, o, a1, b1, b2, b3⟩
/-- a method from its entry -/
theorem g_entry {strs : List (String × Nat × String)} {D : va_G} {cA : Nat → ClassId} {h0 : Nat} {l : Launch} {y : MethodName} {cc : ByteArray} {maxL : Nat} {rt : Option FieldType} {rm : Room} {av : List Value} {hp : hpT} {Qc : Array Value → State → Outcome → State → Prop} {XC : String → State → State → Prop} {mc ms : Nat} {lv : List (Option Value)}
    (hy : plainFor y = true) (hl : l.stackTraces = false) (hc : ∀ v ∈ av, v.category = 1) (hsz : (lg_sl av).length ≤ maxL) (hlv : av.map some ++ List.replicate (maxL - av.length) none = lv)
    (body : ∀ p e s m args below meth c, Cx strs D cA h0 p l s m args meth c cc y.cls maxL → meth.sig.returnType = rt → (∀ x ∈ c.exceptionTable.toList, False) → meth.name = y.name → G D cA h0 p l e rm s m args below meth c maxL (vx_MQ below Qc XC args s mc ms (Af h0)) 0 0 hp 0 lv []) :
    vx_Met l y (wsm y cc maxL rt) rm (va_Pc av (Pre strs D cA h0 hp)) Qc XC mc ms (Af h0) := by
  refine vx_ofWF (cc := cc) (maxL := maxL) (ret := rt) hy rfl ?_
  intro p e s m args below meth c s₁ B hml ht hv
  obtain ⟨rfl, hW, hK⟩ := hv
  have hts : ∀ w ∈ wsm y cc maxL rt, w.before av.toArray s = true := atoms_spec (ws := wsm y cc maxL rt) B.pre
  have hown : s.vm.findClass y.cls = some m.cls := findClass_of_methodNamed B.named
  have hin : meth.name = y.name := (name_of_methodNamed B.named B.method).1
  have hlp := lvP_entry av hc hsz
  rw [hlv] at hlp
  rw [lg_entry_eq]
  exact body p e s m av.toArray below meth c ⟨B.exec, B.bytes, hml, hown, fun w hw => hts w (List.mem_cons_of_mem _ hw), hK, hl, B.notSynchronized⟩ B.returns ht hin s.heap [] _ hW va_S.rf hlp
section GC
variable {strs : List (String × Nat × String)} {D : va_G} {cA : Nat → ClassId} {h0 : Nat} {p : Program} {l : Launch} {e : Env} {R : Room} {s : State} {m : MethodId} {args : Array Value} {below : List Frame} {meth : Method} {c : Code} {nL cells slots : Nat} {Q : State → Prop} {hp : hpT} {pc : Nat} {lv : List (Option Value)} {st : List Value} {cc : ByteArray} {own : String} {mc ms : Nat}
theorem r_ireturn (K : Cx strs D cA h0 p l s m args meth c cc own nL) (hr : meth.sig.returnType = some .int) {res : (Int32 ⊕ String) × hpT} {XC : String → State → State → Prop} {v : Int32} (d : decode cc pc = .ok (.ireturn, 1)) (h : rtv v hp = some res) (hc : cells ≤ mc) (hs : slots ≤ ms) : G D cA h0 p l e R s m args below meth c nL (vx_MQ below (QI D cA h0 res) XC args s mc ms (Af h0)) cells slots hp pc lv [.int v] := by
  intro H locs ls a1 a2 a3
  cases h
  exact W.widen hc hs (vx_ret (W.iret K.1 K.2.1 hr (fun t ht hW => ⟨⟨v, (), rfl, rfl, by subst ht; exact a1⟩, a2.F ht⟩) a2.2.2 d K.2.2.2.2.2.2.2))
theorem nar_bool {v : Int32} (h : v = 0 ∨ v = 1) : narrow .boolean (.int v) = .int v := by rcases h with rfl | rfl <;> rfl
theorem r_zreturn (K : Cx strs D cA h0 p l s m args meth c cc own nL) (hr : meth.sig.returnType = some .boolean) {res : (Int32 ⊕ String) × hpT} {XC : String → State → State → Prop} {v : Int32} (d : decode cc pc = .ok (.ireturn, 1)) (h : rtZ v hp = some res) (hc : cells ≤ mc) (hs : slots ≤ ms) : G D cA h0 p l e R s m args below meth c nL (vx_MQ below (QI D cA h0 res) XC args s mc ms (Af h0)) cells slots hp pc lv [.int v] := by
  intro H locs ls a1 a2 a3
  obtain ⟨hv, rfl⟩ := rtZ_inv h
  exact W.widen hc hs (vx_ret (W.zret K.1 K.2.1 hr (nar_bool hv) (fun t ht hW => ⟨⟨v, (), rfl, rfl, by subst ht; exact a1⟩, a2.F ht⟩) a2.2.2 d K.2.2.2.2.2.2.2))
theorem r_vreturn (K : Cx strs D cA h0 p l s m args meth c cc own nL) (hr : meth.sig.returnType = none) {res : (Unit ⊕ String) × hpT} {XC : String → State → State → Prop} (d : decode cc pc = .ok (.return_, 1)) (h : rtv () hp = some res) (hc : cells ≤ mc) (hs : slots ≤ ms) : G D cA h0 p l e R s m args below meth c nL (vx_MQ below (QV D cA h0 res) XC args s mc ms (Af h0)) cells slots hp pc lv [] := by
  intro H locs ls a1 a2 a3
  cases h
  exact W.widen hc hs (vx_ret (W.vret K.1 K.2.1 hr (fun t ht hW => ⟨⟨(), rfl, rfl, by subst ht; exact a1⟩, a2.F ht⟩) a2.2.2 d K.2.2.2.2.2.2.2))
theorem r_areturn (K : Cx strs D cA h0 p l s m args meth c cc own nL) {C : String} (hr : meth.sig.returnType = some (.object C)) {res : (Nat ⊕ String) × hpT} {XC : String → State → State → Prop} {v : Nat} (d : decode cc pc = .ok (.areturn, 1)) (h : rtv v hp = some res) (hc : cells ≤ mc) (hs : slots ≤ ms) : G D cA h0 p l e R s m args below meth c nL (vx_MQ below (QR D cA h0 res) XC args s mc ms (Af h0)) cells slots hp pc lv [va_rf (some v)] := by
  intro H locs ls a1 a2 a3
  cases h
  exact W.widen hc hs (vx_ret (W.aret K.1 K.2.1 hr (Or.inl ⟨C, rfl⟩) (Or.inr ⟨v, rfl⟩) (fun t ht hW => ⟨⟨some v, (), rfl, ⟨v, rfl, rfl⟩, by subst ht; exact a1⟩, a2.F ht⟩) a2.2.2 d K.2.2.2.2.2.2.2))
/-- a place where own throws a new cls(text): its words -/
def THW (own : String) (ik ic : Nat) (cls : String) (names : List String) : Prop := Bundle.fit cls = true ∧ (∀ n ∈ names, Bundle.fit n = true) ∧ Cond.classLink own ik cls ∈ gdL ∧ Cond.initialized cls ∈ gdL ∧ (∀ w ∈ vx_atS own ic cls names, w ∈ gdL ∨ w ∈ ngL) ∧ (∀ w ∈ Cond.classLink own ik cls :: Cond.initialized cls :: vx_atS own ic cls names, vx_ot w = true)
theorem wdx_of {α : Type} {res : (α ⊕ String) × hpT} {cls : String} {H : Heap} {locs : List Loc} (h : tht cls hp = some res) (a1 : Wd D cA h0 hp H) (a2 : va_S (Af h0) s.heap H locs) (t : State) (hz : H.size ≤ t.heap.size) (hq : ∀ q : Nat, q < H.size → t.heap[q]? = H[q]?) : XE D cA h0 res cls s t := by
  cases h
  exact ⟨(), trivial, ⟨rfl, a1.2.keep hz hq⟩, Nat.le_trans a2.1 hz, fun q q1 q2 => (hq q (Nat.lt_of_lt_of_le q1 a2.1)).trans (a2.2.1 q q1 q2)⟩
theorem r_throw {α : Type} {res : (α ⊕ String) × hpT} {Qc : Array Value → State → Outcome → State → Prop} (K : Cx strs D cA h0 p l s m args meth c cc own nL) (hE : ∀ x ∈ c.exceptionTable.toList, False) {cls text : String} {names : List String} {ik is ic : Nat} (d0 : decode cc pc = .ok (.new ik, 3)) (d3 : decode cc (pc + 3) = .ok (.dup, 1)) (d4 : decode cc (pc + 4) = .ok (.ldc is, 2)) (d6 : decode cc (pc + 6) = .ok (.invokespecial ic, 3)) (d9 : decode cc (pc + 9) = .ok (.athrow, 1))
    (hT : THW own ik ic cls names) (hstr : (own, is, text) ∈ strs) (h : tht cls hp = some res) (hRf : names.length + 3 < R.frames) (hRl : (st.map fun v => v.category).sum + (13 * (names.length + 1) + 43) ≤ R.locals) (hRc : cells + 1 ≤ R.cells) (hRs : slots + 6 ≤ R.slots) (hc : cells + 1 ≤ mc) (hs : slots + 6 ≤ ms) :
    G D cA h0 p l e R s m args below meth c nL (vx_MQ below Qc (XE D cA h0 res) args s mc ms (Af h0)) cells slots hp pc lv st := by
  intro H locs ls a1 a2 a3
  obtain ⟨hx, hb, hml, hown, hts, hK, hl, hlk⟩ := K
  obtain ⟨t1, t2, t3, t4, t5, t6⟩ := hT
  obtain ⟨sa, hsa⟩ := hK.2.2.2.1 _ hstr
  have hat : ∀ w ∈ vx_atS own ic cls names, w.before args s = true := fun w hw => by
    rcases t5 w hw with q | q
    · exact hts w q
    · exact va_Nw.use (ngL_tab q) (hK.2.1 w q)
  exact vx_throwS (sa := sa) (text := text) (A := Af h0) hx hb hl hown t1 t2 (hts _ t3) (hts _ t4) hsa hat t6 hK.2.2.2.2.1 hK.2.2.2.2.2.1 a2 (a3.1.trans hml.symm) d0 d3 d4 d6 d9 (fun x q => (hE x q).elim) hRf hRl hRc hRs hlk (fun t _ hz hq => wdx_of h a1 a2 t hz hq) a2.2.2 hc hs
theorem r_throwW {α : Type} {res : (α ⊕ String) × hpT} {Qc : Array Value → State → Outcome → State → Prop} (K : Cx strs D cA h0 p l s m args meth c cc own nL) (hE : ∀ x ∈ c.exceptionTable.toList, False) {cls text : String} {names : List String} {ik is ic : Nat} (d0 : decode cc pc = .ok (.new ik, 3)) (d3 : decode cc (pc + 3) = .ok (.dup, 1)) (d4 : decode cc (pc + 4) = .ok (.ldc_w is, 3)) (d7 : decode cc (pc + 7) = .ok (.invokespecial ic, 3)) (d10 : decode cc (pc + 10) = .ok (.athrow, 1))
    (hT : THW own ik ic cls names) (hstr : (own, is, text) ∈ strs) (h : tht cls hp = some res) (hRf : names.length + 3 < R.frames) (hRl : (st.map fun v => v.category).sum + (13 * (names.length + 1) + 43) ≤ R.locals) (hRc : cells + 1 ≤ R.cells) (hRs : slots + 6 ≤ R.slots) (hc : cells + 1 ≤ mc) (hs : slots + 6 ≤ ms) :
    G D cA h0 p l e R s m args below meth c nL (vx_MQ below Qc (XE D cA h0 res) args s mc ms (Af h0)) cells slots hp pc lv st := by
  intro H locs ls a1 a2 a3
  obtain ⟨hx, hb, hml, hown, hts, hK, hl, hlk⟩ := K
  obtain ⟨t1, t2, t3, t4, t5, t6⟩ := hT
  obtain ⟨sa, hsa⟩ := hK.2.2.2.1 _ hstr
  have hat : ∀ w ∈ vx_atS own ic cls names, w.before args s = true := fun w hw => by
    rcases t5 w hw with q | q
    · exact hts w q
    · exact va_Nw.use (ngL_tab q) (hK.2.1 w q)
  exact vx_throwSW (sa := sa) (text := text) (A := Af h0) hx hb hl hown t1 t2 (hts _ t3) (hts _ t4) hsa hat t6 hK.2.2.2.2.1 hK.2.2.2.2.2.1 a2 (a3.1.trans hml.symm) d0 d3 d4 d7 d10 (fun x q => (hE x q).elim) hRf hRl hRc hRs hlk (fun t _ hz hq => wdx_of h a1 a2 t hz hq) a2.2.2 hc hs
/-- Object's constructor -/
theorem r_objInit (K : Cx strs D cA h0 p l s m args meth c cc own nL) {idx a : Nat} (d : decode cc pc = .ok (.invokespecial idx, 3)) (hw : Cond.methodLink own idx objectInit ∈ gdL) (hw2 : Cond.instanceMethod objectInit ∈ gdL) (hw3 : Cond.code objectInit ⟨#[0xb1]⟩ 1 none ∈ gdL) (hf : 1 ≤ R.frames) (hl : (st.map fun v => v.category).sum + 12 ≤ R.locals) (k : G D cA h0 p l e R s m args below meth c nL Q cells slots hp (pc + 3) lv st) : G D cA h0 p l e R s m args below meth c nL Q cells slots hp pc lv (va_rf (some a) :: st) := by
  intro H locs ls a1 a2 a3
  obtain ⟨hx, hb, hml, hown, hts, hK, -⟩ := K
  refine W.objInit hx hb hown (hts _ hw) (hts _ hw2) (hts _ hw3) rfl (a3.1.trans hml.symm) rfl d hf (by show 2 * 0 + _ + 12 ≤ _; omega) ?_
  exact k H locs ls a1 a2 a3
-- ===== calls: what a place of a call needs of the words
def mcat (st : List Value) : Nat := (st.map fun v => v.category).sum
def NMH (y : MethodName) : Prop := y.cls ≠ "java/lang/invoke/MethodHandle" ∧ y.cls ≠ "java/lang/invoke/VarHandle"
/-- the callee: its code, its class -/
def CEE (y : MethodName) (cy : ByteArray) (ny : Nat) (rt : Option FieldType) (n : Nat) : Prop := Cond.code y cy ny rt ∈ gdL ∧ Cond.initialized y.cls ∈ gdL ∧ (y.cls ≠ "java/lang/invoke/MethodHandle" ∧ y.cls ≠ "java/lang/invoke/VarHandle" ∧ (parseMethodDescriptor y.desc).map (fun d => d.parameters.length) = some n)
def CST (y : MethodName) : Prop := Cond.static y ∈ gdL
def CVI (y : MethodName) : Prop := Cond.instanceMethod y ∈ gdL ∧ Cond.selects y.cls y y ∈ gdL
def CIN (y : MethodName) : Prop := Cond.instanceMethod y ∈ gdL ∧ y.name = "<init>"
/-- the place's link: of its own, or of its nest -/
def LNK (own : String) (idx : Nat) (y : MethodName) : Prop := Cond.methodLink own idx y ∈ gdL ∨ ∃ host, Cond.methodLinkNest own idx y host ∈ ngL
/-- a run of a call, at the frame's states over hp -/
def RUN (D : va_G) (cA : Nat → ClassId) (h0 : Nat) (p : Program) (l : Launch) (e : Env) (R : Room) (s : State) (m : MethodId) (args : Array Value) (below : List Frame) (meth : Method) (c : Code) (nL cells slots mc ms : Nat) (hp : hpT) (pc : Nat) (lv : List (Option Value)) (st0 st : List Value) (Qa : State → Outcome → State → Prop) (XC : String → State → State → Prop) : Prop :=
  ∀ (H : Heap) (locs : List Loc) (ls : Array Slot), Wd D cA h0 hp H → va_S (Af h0) s.heap H locs → lvP ls nL lv → vx_Run p l e R s m args below meth c H locs cells slots mc ms (F0 m pc ls st0) st Qa XC (Af h0)
variable {y : MethodName} {cy : ByteArray} {ny n idx : Nat} {rt : Option FieldType} {rm : Room} {As : List Value} {Qc : Array Value → State → Outcome → State → Prop} {XC : String → State → State → Prop}
theorem wsm_in {P : Cond → Prop} (hc : Cond.code y cy ny rt ∈ gdL) : ∀ w ∈ wsm y cy ny rt, w ∈ gdL := fun w hw => (List.mem_cons.mp hw).elim (fun e => by rw [e]; exact hc) id
theorem pre_at {H : Heap} {locs : List Loc} (K : Cx strs D cA h0 p l s m args meth c cc own nL) (a1 : Wd D cA h0 hp H) (a2 : va_S (Af h0) s.heap H locs) : ∀ U : State, U.heap = H → s.WarmedH U.vm → Pre strs D cA h0 hp U := fun U hU hW => ⟨by rw [hU]; exact a1, K.2.2.2.2.2.1.to hW (by rw [hU]; exact a2.1) (fun a q1 q2 => by rw [hU]; exact a2.2.1 a q1 q2)⟩
theorem run_S (K : Cx strs D cA h0 p l s m args meth c cc own nL) (hM : vx_Met l y (wsm y cy ny rt) rm (va_Pc As (Pre strs D cA h0 hp)) Qc XC mc ms (Af h0)) {st0 : List Value} (d : decode cc pc = .ok (.invokestatic idx, 3)) (hE : CEE y cy ny rt n) (hT : CST y) (hL : LNK own idx y) (hn : As.length = n) (hst : st0 = As.reverse ++ st) (hR : rm.frames + 1 ≤ R.frames ∧ 8 + (ny + 11) + rm.locals ≤ R.locals) (hrc : rm.cells = mc) (hrs : rm.slots = ms) (hW : mcat st ≤ 8) (hf : cells + mc ≤ R.cells ∧ slots + ms ≤ R.slots) : RUN D cA h0 p l e R s m args below meth c nL cells slots mc ms hp pc lv st0 st (Qc As.toArray) XC := by
  intro H locs ls a1 a2 a3
  obtain ⟨hx, hb, hml, hown, hts, hK, -⟩ := id K
  have hG : GoodIn gdL (wsm y cy ny rt) := gdIn (wsm_in (P := fun _ => True) hE.1)
  have hp' : PreS s H (va_Pc As (Pre strs D cA h0 hp)) As := ⟨pre_blind, fun U hU hW => ⟨rfl, pre_at K a1 a2 U hU hW⟩⟩
  rcases hL with h | ⟨host, h⟩
  · exact vx_runS (Ts := gdL) (own := own) ⟨hx, hb, hml, hown, hts⟩ hM ⟨callB_of n hts hG rfl hrc hrs (hts _ hE.2.1) (hts _ h) hE.2.2 hR, hts _ hT⟩ hp' rfl hn a3.1 hst (lv_room hW) d hf
  · exact vx_runSN (Ts := gdL) (own := own) ⟨hx, hb, hml, hown, hts⟩ hM ⟨va_cnB n hts hG rfl hrc hrs (hK.2.1 _ h) (hts _ hE.2.1) hE.2.2 hR, hts _ hT, trivial⟩ hp' rfl hn a3.1 hst (lv_room hW) d hf
theorem run_V (K : Cx strs D cA h0 p l s m args meth c cc own nL) {b ci : Nat} {q0 : vw_C} {fs : List Value} (hM : vx_Met l y (wsm y cy ny rt) rm (va_Pc (va_rf (some b) :: As) (Pre strs D cA h0 hp)) Qc XC mc ms (Af h0)) {st0 : List Value} (d : decode cc pc = .ok (.invokevirtual idx, 3)) (hE : CEE y cy ny rt n) (hT : CVI y) (hL : LNK own idx y) (hci : vwCl[ci]? = some q0) (hcy : q0.1 = y.cls) (hb9 : hp.2 b = some (.inr (ci, fs))) (hn : As.length = n) (hst : st0 = As.reverse ++ va_rf (some b) :: st) (hR : rm.frames + 1 ≤ R.frames ∧ 8 + (ny + 11) + rm.locals ≤ R.locals) (hrc : rm.cells = mc) (hrs : rm.slots = ms) (hW : mcat st ≤ 8) (hf : cells + mc ≤ R.cells ∧ slots + ms ≤ R.slots) : RUN D cA h0 p l e R s m args below meth c nL cells slots mc ms hp pc lv st0 st (Qc (va_rf (some b) :: As).toArray) XC := by
  intro H locs ls a1 a2 a3
  obtain ⟨hx, hb, hml, hown, hts, hK, -⟩ := id K
  have hG : GoodIn gdL (wsm y cy ny rt) := gdIn (wsm_in (P := fun _ => True) hE.1)
  have hrv := va_recv hK.1 (a1.obj hb9) hci (q0 := 0) rfl
  rw [hcy] at hrv
  have hp' : PreV s H y.cls b (va_Pc (va_rf (some b) :: As) (Pre strs D cA h0 hp)) As := ⟨pre_blind, hrv, fun U hU hW => ⟨rfl, pre_at K a1 a2 U hU hW⟩⟩
  rcases hL with h | ⟨host, h⟩
  · exact vx_runV (Ts := gdL) (own := own) (C := y.cls) ⟨hx, hb, hml, hown, hts⟩ hM ⟨callB_of n hts hG rfl hrc hrs (hts _ hE.2.1) (hts _ h) hE.2.2 hR, hts _ hT.1, hts _ hT.2⟩ hp' rfl hn a3.1 hst (lv_room hW) d hf
  · exact vx_runVN (Ts := gdL) (own := own) (C := y.cls) ⟨hx, hb, hml, hown, hts⟩ hM ⟨va_cnB n hts hG rfl hrc hrs (hK.2.1 _ h) (hts _ hE.2.1) hE.2.2 hR, hts _ hT.1, hts _ hT.2⟩ hp' rfl hn a3.1 hst (lv_room hW) d hf
theorem run_I (K : Cx strs D cA h0 p l s m args meth c cc own nL) {b : Nat} (hM : vx_Met l y (wsm y cy ny none) rm (va_Pc (va_rf (some b) :: As) (Pre strs D cA h0 hp)) Qc XC mc ms (Af h0)) {st0 : List Value} (d : decode cc pc = .ok (.invokespecial idx, 3)) (hE : CEE y cy ny none n) (hT : CIN y) (hL : LNK own idx y) (hn : As.length = n) (hst : st0 = As.reverse ++ va_rf (some b) :: st) (hR : rm.frames + 1 ≤ R.frames ∧ 8 + (ny + 11) + rm.locals ≤ R.locals) (hrc : rm.cells = mc) (hrs : rm.slots = ms) (hW : mcat st ≤ 8) (hf : cells + mc ≤ R.cells ∧ slots + ms ≤ R.slots) : RUN D cA h0 p l e R s m args below meth c nL cells slots mc ms hp pc lv st0 st (Qc (va_rf (some b) :: As).toArray) XC := by
  intro H locs ls a1 a2 a3
  obtain ⟨hx, hb, hml, hown, hts, hK, -⟩ := id K
  have hG : GoodIn gdL (wsm y cy ny none) := gdIn (wsm_in (P := fun _ => True) hE.1)
  have hp' : PreS s H (va_Pc (va_rf (some b) :: As) (Pre strs D cA h0 hp)) (.ref b :: As) := ⟨pre_blind, fun U hU hW => ⟨rfl, pre_at K a1 a2 U hU hW⟩⟩
  rcases hL with h | ⟨host, h⟩
  · exact vx_runI (Ts := gdL) (own := own) ⟨hx, hb, hml, hown, hts⟩ hM ⟨callB_of n hts hG rfl hrc hrs (hts _ hE.2.1) (hts _ h) hE.2.2 hR, hT.2, hts _ hT.1⟩ hp' rfl hn a3.1 hst (lv_room hW) d hf
  · exact vx_runIN (Ts := gdL) (own := own) ⟨hx, hb, hml, hown, hts⟩ hM ⟨va_cnB n hts hG rfl hrc hrs (hK.2.1 _ h) (hts _ hE.2.1) hE.2.2 hR, hT.2, hts _ hT.1⟩ hp' rfl hn a3.1 hst (lv_room hW) d hf
-- behind a call: what comes back, and an exception goes on to the caller
variable {β : Type} {res : (β ⊕ String) × hpT} {Qe : Array Value → State → Outcome → State → Prop} {st0 : List Value} {mc' ms' : Nat}
theorem out_of {α : Type} {r1 : (α ⊕ String) × hpT} (K : Cx strs D cA h0 p l s m args meth c cc own nL) (hE : ∀ x ∈ c.exceptionTable.toList, False) (hxx : ∀ E, r1.1 = .inr E → res = (.inr E, r1.2)) (hc : cells ≤ mc) (hs : slots ≤ ms) {rest : List Value} (E : String) (ce : Cell) (q9 : Addr) (t : State) (H1 : Heap) (locs1 : List Loc) (ls : Array Slot) (ht : t.heap = H1) (hb : r1.1 = .inr E ∧ WdX D cA h0 r1.2 t.heap) (a2 : va_S (Af h0) s.heap H1 locs1) (hq : H1[q9]? = some ce) (hv : ce.vm = .none) (hcl : s.vm.findClass E = some ce.cls) : vx_W p l e R s m args below meth c H1 locs1 cells slots (vx_MQ below Qe (XE D cA h0 res) args s mc ms (Af h0)) (F0 m pc ls rest) q9 := by
  refine vx_out (fun x q => (hE x q).elim) K.2.2.2.2.2.2.2 hq hv hcl (fun T hT hal => ?_) a2.2.2 hc hs
  rw [hxx E hb.1]
  exact ⟨(), trivial, ⟨rfl, by rw [hT, ← ht]; exact hb.2⟩, a2.F hT⟩
theorem c_int (K : Cx strs D cA h0 p l s m args meth c cc own nL) (hE : ∀ x ∈ c.exceptionTable.toList, False) {r1 : (Int32 ⊕ String) × hpT} {F : Int32 → hpT → Rs β} {a : Array Value} (hr : RUN D cA h0 p l e R s m args below meth c nL cells slots mc' ms' hp pc lv st0 st (QI D cA h0 r1 a) (XE D cA h0 r1)) (hxx : ∀ E, r1.1 = .inr E → res = (.inr E, r1.2)) (hc : cells + mc' ≤ mc) (hs : slots + ms' ≤ ms) (kk : ∀ v, r1.1 = .inl v → G D cA h0 p l e R s m args below meth c nL (vx_MQ below Qe (XE D cA h0 res) args s mc ms (Af h0)) (cells + mc') (slots + ms') r1.2 (pc + 3) lv (.int v :: st)) : G D cA h0 p l e R s m args below meth c nL (vx_MQ below Qe (XE D cA h0 res) args s mc ms (Af h0)) cells slots hp pc lv st0 := by
  intro H locs ls a1 a2 a3
  refine vx_calli (hr H locs ls a1 a2 a3) a2 (fun _ _ h => h) (fun _ h => h) (fun _ _ h => h) (fun E ce q9 u t H1 locs1 ht _ _ hb _ _ b2 hq hv hcl => out_of K hE hxx hc hs E ce q9 t H1 locs1 ls ht hb b2 hq hv hcl) (fun r u t H1 locs1 ht _ hp1 hB _ _ b2 => ?_)
  exact kk r hp1 H1 locs1 ls (by rw [← ht]; exact hB) b2 a3
theorem c_void (K : Cx strs D cA h0 p l s m args meth c cc own nL) (hE : ∀ x ∈ c.exceptionTable.toList, False) {r1 : (Unit ⊕ String) × hpT} {a : Array Value} (hr : RUN D cA h0 p l e R s m args below meth c nL cells slots mc' ms' hp pc lv st0 st (QV D cA h0 r1 a) (XE D cA h0 r1)) (hxx : ∀ E, r1.1 = .inr E → res = (.inr E, r1.2)) (hc : cells + mc' ≤ mc) (hs : slots + ms' ≤ ms) (kk : ∀ v, r1.1 = .inl v → G D cA h0 p l e R s m args below meth c nL (vx_MQ below Qe (XE D cA h0 res) args s mc ms (Af h0)) (cells + mc') (slots + ms') r1.2 (pc + 3) lv st) : G D cA h0 p l e R s m args below meth c nL (vx_MQ below Qe (XE D cA h0 res) args s mc ms (Af h0)) cells slots hp pc lv st0 := by
  intro H locs ls a1 a2 a3
  refine vx_callv (hr H locs ls a1 a2 a3) a2 (fun _ _ h => h) (fun _ h => h) (fun _ _ h => h) (fun E ce q9 u t H1 locs1 ht _ _ hb _ _ b2 hq hv hcl => out_of K hE hxx hc hs E ce q9 t H1 locs1 ls ht hb b2 hq hv hcl) (fun u t H1 locs1 ht _ hp1 hB _ _ b2 => ?_)
  exact kk () hp1 H1 locs1 ls (by rw [← ht]; exact hB) b2 a3
theorem c_ref (K : Cx strs D cA h0 p l s m args meth c cc own nL) (hE : ∀ x ∈ c.exceptionTable.toList, False) {r1 : (Nat ⊕ String) × hpT} {a : Array Value} (hr : RUN D cA h0 p l e R s m args below meth c nL cells slots mc' ms' hp pc lv st0 st (QR D cA h0 r1 a) (XE D cA h0 r1)) (hxx : ∀ E, r1.1 = .inr E → res = (.inr E, r1.2)) (hc : cells + mc' ≤ mc) (hs : slots + ms' ≤ ms) (kk : ∀ v, r1.1 = .inl v → G D cA h0 p l e R s m args below meth c nL (vx_MQ below Qe (XE D cA h0 res) args s mc ms (Af h0)) (cells + mc') (slots + ms') r1.2 (pc + 3) lv (va_rf (some v) :: st)) : G D cA h0 p l e R s m args below meth c nL (vx_MQ below Qe (XE D cA h0 res) args s mc ms (Af h0)) cells slots hp pc lv st0 := by
  intro H locs ls a1 a2 a3
  refine vx_callq (hr H locs ls a1 a2 a3) a2 (fun _ _ h => h) (fun _ h => h) (fun _ _ h => h) (fun E ce q9 u t H1 locs1 ht _ _ hb _ _ b2 hq hv hcl => out_of K hE hxx hc hs E ce q9 t H1 locs1 ls ht hb b2 hq hv hcl) (fun r u t H1 locs1 ht _ hp1 hB _ _ b2 => ?_)
  obtain ⟨v, rfl, hv⟩ := hp1
  exact kk v hv H1 locs1 ls (by rw [← ht]; exact hB) b2 a3
end GC
