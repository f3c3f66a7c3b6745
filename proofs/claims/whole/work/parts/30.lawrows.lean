/-! rows for the law: wrappers that catch, the script, calls whose answer is known -/
def wcode {α : Type} : List String → Int32 → String → (Int32 → Rs α) → Rs α
  | [], _, _, _ => none
  | e :: l, n, E, K => if E = e then K n else wcode l (n + 1) E K
def wrap (cs : List String) (X : Rs Int32) (ao : Nat) : Rs Int32 := match X with
  | none => none
  | some (.inl v, h1) => astL h1 ao 0 v.toInt64 fun h2 => rtv 0 h2
  | some (.inr E, h1) => wcode cs 1 E fun k => rtv k h1
def QX (D : va_G) (cA : Nat → ClassId) (h0 : Nat) (res : (Int32 ⊕ String) × hpT) : Array Value → State → Outcome → State → Prop := va_Qi (S := Unit) (fun r _ => res.1 = .inl r) (fun _ t => ∃ z, Wd D cA h0 (z, res.2.2) t.heap) (Af h0)
def XN (h0 : Nat) : String → State → State → Prop := vx_X (S := Unit) (fun _ => False) (fun _ _ _ => True) (Af h0)
def wsmW (y : MethodName) (cc : ByteArray) (n : Nat) (rt : Option FieldType) (hh : List (Nat × Nat × Nat × Nat)) : List Cond := Cond.codeWith y cc n rt hh :: gdL
theorem g_entryW {strs : List (String × Nat × String)} {D : va_G} {cA : Nat → ClassId} {h0 : Nat} {l : Launch} {y : MethodName} {cc : ByteArray} {maxL : Nat} {rt : Option FieldType} {hh : List (Nat × Nat × Nat × Nat)} {rm : Room} {av : List Value} {hp : hpT} {Qc : Array Value → State → Outcome → State → Prop} {XC : String → State → State → Prop} {mc ms : Nat} {lv : List (Option Value)}
    (hy : plainName y.cls = true) (hl : l.stackTraces = false) (hc : ∀ v ∈ av, v.category = 1) (hsz : (lg_sl av).length ≤ maxL) (hlv : av.map some ++ List.replicate (maxL - av.length) none = lv)
    (body : ∀ p e s m args below meth c, Cx strs D cA h0 p l s m args meth c cc y.cls maxL → meth.sig.returnType = rt → c.exceptionTable.toList = tableOf hh → G D cA h0 p l e rm s m args below meth c maxL (vx_MQ below Qc XC args s mc ms (Af h0)) 0 0 hp 0 lv []) :
    vx_Met l y (wsmW y cc maxL rt hh) rm (va_Pc av (Pre strs D cA h0 hp)) Qc XC mc ms (Af h0) := by
  refine vx_ofWH (cc := cc) (maxL := maxL) (ret := rt) (hh := hh) hy rfl ?_
  intro p e s m args below meth c s₁ B hml hv
  obtain ⟨rfl, hW, hK⟩ := hv
  have hts : ∀ w ∈ wsmW y cc maxL rt hh, w.before av.toArray s = true := atoms_spec (ws := wsmW y cc maxL rt hh) B.pre
  have hown : s.vm.findClass y.cls = some m.cls := findClass_of_methodNamed B.named
  have ht : c.exceptionTable.toList = tableOf hh := vx_table (x := y) B (hts _ List.mem_cons_self)
  have hlp := lvP_entry av hc hsz
  rw [hlv] at hlp
  rw [lg_entry_eq]
  exact body p e s m av.toArray below meth c ⟨B.exec, B.bytes, hml, hown, fun w hw => hts w (List.mem_cons_of_mem _ hw), hK, hl, B.notSynchronized⟩ B.returns ht s.heap [] _ hW va_S.rf hlp
section GL
variable {strs : List (String × Nat × String)} {D : va_G} {cA : Nat → ClassId} {h0 : Nat} {p : Program} {l : Launch} {e : Env} {R : Room} {s : State} {m : MethodId} {args : Array Value} {below : List Frame} {meth : Method} {c : Code} {nL cells slots : Nat} {Q : State → Prop} {hp : hpT} {pc : Nat} {lv : List (Option Value)} {st : List Value} {cc : ByteArray} {own : String} {mc ms : Nat}
theorem r_i2l (K : Cx strs D cA h0 p l s m args meth c cc own nL) {x : Int32} (d : decode cc pc = .ok (.i2l, 1)) (k : G D cA h0 p l e R s m args below meth c nL Q cells slots hp (pc + 1) lv (.long x.toInt64 :: st)) : G D cA h0 p l e R s m args below meth c nL Q cells slots hp pc lv (.int x :: st) := r_ofW K (g2 := (_, _)) (fun _ _ _ _ w => lv_i2l K.1 K.2.1 d rfl w) k
theorem r_lcmp (K : Cx strs D cA h0 p l s m args meth c cc own nL) {x y : Int64} (d : decode cc pc = .ok (.lcmp, 1)) (k : G D cA h0 p l e R s m args below meth c nL Q cells slots hp (pc + 1) lv (.int (lg_cmp x y) :: st)) : G D cA h0 p l e R s m args below meth c nL Q cells slots hp pc lv (.long y :: .long x :: st) := r_ofW K (g2 := (_, _)) (fun _ _ _ _ w => W.lcmp K.1 K.2.1 d w) k
theorem r_ireturnX (K : Cx strs D cA h0 p l s m args meth c cc own nL) (hr : meth.sig.returnType = some .int) {res : (Int32 ⊕ String) × hpT} {XC : String → State → State → Prop} {v : Int32} (d : decode cc pc = .ok (.ireturn, 1)) (h : res.1 = .inl v) (hg : res.2.2 = hp.2) (hc : cells ≤ mc) (hs : slots ≤ ms) : G D cA h0 p l e R s m args below meth c nL (vx_MQ below (QX D cA h0 res) XC args s mc ms (Af h0)) cells slots hp pc lv [.int v] := by
  intro H locs ls a1 a2 a3
  exact W.widen hc hs (vx_ret (W.iret K.1 K.2.1 hr (fun t ht hW => ⟨⟨v, (), rfl, h, hp.1, by subst ht; rw [hg]; exact a1⟩, a2.F ht⟩) a2.2.2 d K.2.2.2.2.2.2.2))
/-- a call that may throw, and the row of the table that catches what it throws -/
theorem c_catch (K : Cx strs D cA h0 p l s m args meth c cc own nL) {r1 : (Int32 ⊕ String) × hpT} {a : Array Value} {st0 : List Value} {mc' ms' : Nat} (hr : RUN D cA h0 p l e R s m args below meth c nL cells slots mc' ms' hp pc lv st0 st (QI D cA h0 r1 a) (XE D cA h0 r1))
    (kx : ∀ E, r1.1 = .inr E → ∃ (pre : List ExceptionTableEntry) (x : ExceptionTableEntry) (suf : List ExceptionTableEntry) (name : String), c.exceptionTable.toList = pre ++ x :: suf ∧ (∀ z ∈ pre, covers z pc = false ∨ (z.catchType ≠ 0 ∧ ∃ nm : String, Cond.classLink own z.catchType nm ∈ gdL ∧ (E, nm) ∈ ncL)) ∧ covers x pc = true ∧ x.catchType ≠ 0 ∧ Cond.classLink own x.catchType name ∈ gdL ∧ Cond.castable E name ∈ ngL ∧ ∀ z q, G D cA h0 p l e R s m args below meth c nL Q (cells + mc') (slots + ms') (z, r1.2.2) x.handlerPc lv [va_rf (some q)])
    (kk : ∀ v, r1.1 = .inl v → G D cA h0 p l e R s m args below meth c nL Q (cells + mc') (slots + ms') r1.2 (pc + 3) lv (.int v :: st)) : G D cA h0 p l e R s m args below meth c nL Q cells slots hp pc lv st0 := by
  intro H locs ls a1 a2 a3
  refine vx_calli (hr H locs ls a1 a2 a3) a2 (fun _ _ h => h) (fun _ h => h) (fun _ _ h => h) (fun E ce q9 u t H1 locs1 ht _ _ hb _ _ b2 hq hv hcl => ?_) (fun r u t H1 locs1 ht _ hp1 hB _ _ b2 => ?_)
  · obtain ⟨pre, x, suf, name, e1, e2, e3, e4, e5, e6, e7⟩ := kx E hb.1
    obtain ⟨hx, hb9, hml, hown, hts, hK, -⟩ := id K
    refine vx_catch hown pre x suf e1 (fun z hz => (e2 z hz).imp id (fun q => ⟨q.1, q.2.choose, hts _ q.2.choose_spec.1, hK.2.2.2.2.2.2.2 _ q.2.choose_spec.2⟩)) e3 e4 (hts _ e5) (va_Nw.use (ngL_tab e6) (hK.2.1 _ e6)) hq hv hcl ?_
    exact e7 H1.size q9 H1 locs1 ls ⟨rfl, by rw [← ht]; exact hb.2⟩ b2 a3
  · exact kk r hp1 H1 locs1 ls (by rw [← ht]; exact hB) b2 a3
theorem wrap_exc {cs : List String} {r1 res : (Int32 ⊕ String) × hpT} {ao : Nat} {E : String} (h : wrap cs (some r1) ao = some res) (hE : r1.1 = .inr E) : (wcode cs 1 E fun k => rtv k r1.2) = some res := by
  obtain ⟨o, h1⟩ := r1
  have hE : o = .inr E := hE
  subst hE
  exact h
theorem wrap_val {cs : List String} {r1 res : (Int32 ⊕ String) × hpT} {ao : Nat} {v : Int32} (h : wrap cs (some r1) ao = some res) (hE : r1.1 = .inl v) : (astL r1.2 ao 0 v.toInt64 fun h2 => rtv 0 h2) = some res := by
  obtain ⟨o, h1⟩ := r1
  have hE : o = .inl v := hE
  subst hE
  exact h
-- the law's own rows
theorem r_sld (K : Cx strs D cA h0 p l s m args meth c cc own nL) {b L : Nat} {xs : Nat → Int32} (hX : va_X b L xs s s.heap) (hbl : b < s.heap.size) (hbA : ¬ Af h0 b) {i : Int32} (hin : vp_in i L) (d : decode cc pc = .ok (.iaload, 1)) (k : G D cA h0 p l e R s m args below meth c nL Q cells slots hp (pc + 1) lv (.int (xs i.toNatClampNeg) :: st)) : G D cA h0 p l e R s m args below meth c nL Q cells slots hp pc lv (.int i :: va_rf (some b) :: st) := fun H locs ls a1 a2 a3 => va_sld K.1 K.2.1 hX hbl hbA a2 hin d (k H locs ls a1 a2 a3)
theorem r_slen (K : Cx strs D cA h0 p l s m args meth c cc own nL) {b L : Nat} {xs : Nat → Int32} (hX : va_X b L xs s s.heap) (hbl : b < s.heap.size) (hbA : ¬ Af h0 b) (d : decode cc pc = .ok (.arraylength, 1)) (k : G D cA h0 p l e R s m args below meth c nL Q cells slots hp (pc + 1) lv (.int (Int32.ofNat L) :: st)) : G D cA h0 p l e R s m args below meth c nL Q cells slots hp pc lv (va_rf (some b) :: st) := fun H locs ls a1 a2 a3 => va_slen K.1 K.2.1 hX hbl hbA a2 d (k H locs ls a1 a2 a3)
theorem q_if_eq (K : Cx strs D cA h0 p l s m args meth c cc own nL) {x : Int32} {off : Int} {tgt : Nat} (d : decode cc pc = .ok (.ifCond .eq off, 3)) (ht : (pc : Int) + off = (tgt : Int)) (kt : x = 0 → G D cA h0 p l e R s m args below meth c nL Q cells slots hp tgt lv st) (kf : ¬ x = 0 → G D cA h0 p l e R s m args below meth c nL Q cells slots hp (pc + 3) lv st) : G D cA h0 p l e R s m args below meth c nL Q cells slots hp pc lv (.int x :: st) := fun H locs ls a1 a2 a3 => lv_if_eq K.1 K.2.1 d ht (fun q => kt q H locs ls a1 a2 a3) (fun q => kf q H locs ls a1 a2 a3)
theorem q_if_ne (K : Cx strs D cA h0 p l s m args meth c cc own nL) {x : Int32} {off : Int} {tgt : Nat} (d : decode cc pc = .ok (.ifCond .ne off, 3)) (ht : (pc : Int) + off = (tgt : Int)) (kt : ¬ x = 0 → G D cA h0 p l e R s m args below meth c nL Q cells slots hp tgt lv st) (kf : x = 0 → G D cA h0 p l e R s m args below meth c nL Q cells slots hp (pc + 3) lv st) : G D cA h0 p l e R s m args below meth c nL Q cells slots hp pc lv (.int x :: st) := fun H locs ls a1 a2 a3 => lv_if_ne K.1 K.2.1 d ht (fun q => kt q H locs ls a1 a2 a3) (fun q => kf q H locs ls a1 a2 a3)
theorem q_icmp_eq (K : Cx strs D cA h0 p l s m args meth c cc own nL) {x y : Int32} {off : Int} {tgt : Nat} (d : decode cc pc = .ok (.if_icmp .eq off, 3)) (ht : (pc : Int) + off = (tgt : Int)) (kt : x = y → G D cA h0 p l e R s m args below meth c nL Q cells slots hp tgt lv st) (kf : ¬ x = y → G D cA h0 p l e R s m args below meth c nL Q cells slots hp (pc + 3) lv st) : G D cA h0 p l e R s m args below meth c nL Q cells slots hp pc lv (.int y :: .int x :: st) := fun H locs ls a1 a2 a3 => lv_icmp_eq K.1 K.2.1 d ht (fun q => kt q H locs ls a1 a2 a3) (fun q => kf q H locs ls a1 a2 a3)
theorem q_icmp_gt (K : Cx strs D cA h0 p l s m args meth c cc own nL) {x y : Int32} {off : Int} {tgt : Nat} (d : decode cc pc = .ok (.if_icmp .gt off, 3)) (ht : (pc : Int) + off = (tgt : Int)) (kt : y < x → G D cA h0 p l e R s m args below meth c nL Q cells slots hp tgt lv st) (kf : ¬ y < x → G D cA h0 p l e R s m args below meth c nL Q cells slots hp (pc + 3) lv st) : G D cA h0 p l e R s m args below meth c nL Q cells slots hp pc lv (.int y :: .int x :: st) := fun H locs ls a1 a2 a3 => lv_icmp_gt K.1 K.2.1 d ht (fun q => kt q H locs ls a1 a2 a3) (fun q => kf q H locs ls a1 a2 a3)
/-- addresses in use lie below the next one -/
theorem r_fresh (k : (∀ a e, hp.2 a = some e → a < hp.1) → G D cA h0 p l e R s m args below meth c nL Q cells slots hp pc lv st) : G D cA h0 p l e R s m args below meth c nL Q cells slots hp pc lv st := fun H locs ls a1 a2 a3 => k (fun a e he => a1.lt he) H locs ls a1 a2 a3
variable {y : MethodName} {cy : ByteArray} {ny n idx : Nat} {rt : Option FieldType} {rm : Room} {As : List Value} {st0 : List Value} {mc' ms' : Nat}
/-- a virtual call whose answer is known -/
theorem m_int (K : Cx strs D cA h0 p l s m args meth c cc own nL) {b ci : Nat} {q0 : vw_C} {fs : List Value} {v : Int32} {h3 : hpT} (hM : vx_Met l y (wsm y cy ny rt) rm (va_Pc (va_rf (some b) :: As) (Pre strs D cA h0 hp)) (QI D cA h0 (.inl v, h3)) (XE (α := Int32) D cA h0 (.inl v, h3)) mc' ms' (Af h0)) (d : decode cc pc = .ok (.invokevirtual idx, 3)) (hE : CEE y cy ny rt n) (hT : CVI y) (hL : LNK own idx y) (hci : vwCl[ci]? = some q0) (hcy : q0.1 = y.cls) (hb9 : hp.2 b = some (.inr (ci, fs))) (hn : As.length = n) (hst : st0 = As.reverse ++ va_rf (some b) :: st) (hR : rm.frames + 1 ≤ R.frames ∧ 8 + (ny + 11) + rm.locals ≤ R.locals) (hrc : rm.cells = mc') (hrs : rm.slots = ms') (hW : mcat st ≤ 8) (hc : cells + mc' ≤ R.cells) (hs : slots + ms' ≤ R.slots)
    (kk : G D cA h0 p l e R s m args below meth c nL Q (cells + mc') (slots + ms') h3 (pc + 3) lv (.int v :: st)) : G D cA h0 p l e R s m args below meth c nL Q cells slots hp pc lv st0 := by
  intro H locs ls a1 a2 a3
  refine vx_calli (run_V K hM d hE hT hL hci hcy hb9 hn hst hR hrc hrs hW ⟨hc, hs⟩ H locs ls a1 a2 a3) a2 (fun _ _ h => h) (fun _ h => h) (fun _ _ h => h) (fun E ce q9 u t H1 locs1 ht _ _ hb _ _ b2 hq hv hcl => ?_) (fun r u t H1 locs1 ht _ hp1 hB _ _ b2 => ?_)
  · cases hb.1
  · cases hp1
    exact kk H1 locs1 ls (by rw [← ht]; exact hB) b2 a3
/-- a constructor's call that ends -/
theorem m_init (K : Cx strs D cA h0 p l s m args meth c cc own nL) {b : Nat} {h3 : hpT} (hM : vx_Met l y (wsm y cy ny none) rm (va_Pc (va_rf (some b) :: As) (Pre strs D cA h0 hp)) (QV D cA h0 (.inl (), h3)) (XE (α := Unit) D cA h0 (.inl (), h3)) mc' ms' (Af h0)) (d : decode cc pc = .ok (.invokespecial idx, 3)) (hE : CEE y cy ny none n) (hT : CIN y) (hL : LNK own idx y) (hn : As.length = n) (hst : st0 = As.reverse ++ va_rf (some b) :: st) (hR : rm.frames + 1 ≤ R.frames ∧ 8 + (ny + 11) + rm.locals ≤ R.locals) (hrc : rm.cells = mc') (hrs : rm.slots = ms') (hW : mcat st ≤ 8) (hc : cells + mc' ≤ R.cells) (hs : slots + ms' ≤ R.slots)
    (kk : G D cA h0 p l e R s m args below meth c nL Q (cells + mc') (slots + ms') h3 (pc + 3) lv st) : G D cA h0 p l e R s m args below meth c nL Q cells slots hp pc lv st0 := by
  intro H locs ls a1 a2 a3
  refine vx_callv (run_I K hM d hE hT hL hn hst hR hrc hrs hW ⟨hc, hs⟩ H locs ls a1 a2 a3) a2 (fun _ _ h => h) (fun _ h => h) (fun _ _ h => h) (fun E ce q9 u t H1 locs1 ht _ _ hb _ _ b2 hq hv hcl => ?_) (fun u t H1 locs1 ht _ hp1 hB _ _ b2 => ?_)
  · cases hb.1
  · exact kk H1 locs1 ls (by rw [← ht]; exact hB) b2 a3
def CEW (y : MethodName) (cy : ByteArray) (ny : Nat) (rt : Option FieldType) (hh : List (Nat × Nat × Nat × Nat)) (n : Nat) : Prop := Cond.codeWith y cy ny rt hh ∈ gdL ∧ Cond.initialized y.cls ∈ gdL ∧ (y.cls ≠ "java/lang/invoke/MethodHandle" ∧ y.cls ≠ "java/lang/invoke/VarHandle" ∧ (parseMethodDescriptor y.desc).map (fun d => d.parameters.length) = some n)
/-- a wrapper's call whose answer is known: where its callee threw, what lies beyond the world isn't known -/
theorem w_int (K : Cx strs D cA h0 p l s m args meth c cc own nL) {hh : List (Nat × Nat × Nat × Nat)} {v : Int32} {h3 : hpT} (hM : vx_Met l y (wsmW y cy ny rt hh) rm (va_Pc As (Pre strs D cA h0 hp)) (QX D cA h0 (.inl v, h3)) (XN h0) mc' ms' (Af h0)) (d : decode cc pc = .ok (.invokestatic idx, 3)) (hE : CEW y cy ny rt hh n) (hT : CST y) (hL : Cond.methodLink own idx y ∈ gdL) (hn : As.length = n) (hst : st0 = As.reverse ++ st) (hR : rm.frames + 1 ≤ R.frames ∧ 8 + (ny + 11) + rm.locals ≤ R.locals) (hrc : rm.cells = mc') (hrs : rm.slots = ms') (hW : mcat st ≤ 8) (hc : cells + mc' ≤ R.cells) (hs : slots + ms' ≤ R.slots)
    (kk : ∀ z, G D cA h0 p l e R s m args below meth c nL Q (cells + mc') (slots + ms') (z, h3.2) (pc + 3) lv (.int v :: st)) : G D cA h0 p l e R s m args below meth c nL Q cells slots hp pc lv st0 := by
  intro H locs ls a1 a2 a3
  obtain ⟨hx, hb, hml, hown, hts, hK, -⟩ := id K
  have hG : GoodIn gdL (va_wsS own idx y (wsmW y cy ny rt hh)) := gdIn (fun w hw => by
    rcases List.mem_append.mp hw with h | h
    · rcases List.mem_cons.mp h with h | h
      · rw [h]; exact hL
      · rcases List.mem_cons.mp h with h | h
        · rw [h]; exact hT
        · rw [List.mem_singleton.mp h]; exact hE.2.1
    · rcases List.mem_cons.mp h with h | h
      · rw [h]; exact hE.1
      · exact h)
  have hp' : PreS s H (va_Pc As (Pre strs D cA h0 hp)) As := ⟨pre_blind, fun U hU hW => ⟨rfl, pre_at K a1 a2 U hU hW⟩⟩
  refine vx_calli (vx_runSX (Ts := gdL) (own := own) (g := F0 m pc ls st0) ⟨hx, hb, hml, hown, hts⟩ hM (vx_cwSW n hts hG rfl hrc hrs hE.2.2 hR) hp' rfl hn a3.1 hst (lv_room hW) d ⟨hc, hs⟩) a2 (fun _ _ h => h) (fun _ h => h) (fun _ _ h => h) (fun E ce q9 u t H1 locs1 ht _ hu _ _ _ b2 hq hv hcl => hu.elim) (fun r u t H1 locs1 ht _ hp1 hB _ _ b2 => ?_)
  cases hp1
  obtain ⟨z, hz⟩ := hB
  exact kk z H1 locs1 ls (by rw [← ht]; exact hz) b2 a3
theorem lg_cmp_self (x : Int64) : lg_cmp x x = 0 := by
  have h : ¬ x < x := Int64.lt_irrefl
  simp [lg_cmp, h]
end GL
