/-! THE ROWS over the world: G, a method's frame at pc with locals lv and stack st over the abstract heap hp; each row turns G behind an instruction into G at it -/
def lvP (ls : Array Slot) (nL : Nat) (lv : List (Option Value)) : Prop := ls.size = nL ∧ lv_wf ls ∧ ∀ (i : Nat) (v : Value), lv[i]? = some (some v) → v.category = 1 ∧ ls[i]? = some (.val v)
theorem lvP.at {ls : Array Slot} {nL : Nat} {lv : List (Option Value)} (h : lvP ls nL lv) {i : Nat} {v : Value} (hi : lv[i]? = some (some v)) : ls[i]? = some (.val v) := (h.2.2 i v hi).2
def wkl : List (Option Value) → List (Option Value) → Prop
  | [], _ => True
  | none :: a, [] => wkl a []
  | none :: a, _ :: b => wkl a b
  | some _ :: _, [] => False
  | some v :: a, w :: b => w = some v ∧ wkl a b
theorem wkl_at : ∀ (l2 l : List (Option Value)), wkl l2 l → ∀ (i : Nat) (v : Value), l2[i]? = some (some v) → l[i]? = some (some v)
  | [], _, _, i, v, h => by simp at h
  | none :: a, [], hw, i, v, h => by
    cases i with
    | zero => simp at h
    | succ i =>
      have h1 := wkl_at a [] hw i v (by simpa using h)
      simp at h1
  | none :: a, _ :: b, hw, i, v, h => by
    cases i with
    | zero => simp at h
    | succ i => simpa using wkl_at a b hw i v (by simpa using h)
  | some x :: a, [], hw, i, v, h => hw.elim
  | some x :: a, w :: b, hw, i, v, h => by
    cases i with
    | zero =>
      simp only [List.getElem?_cons_zero, Option.some.injEq] at h ⊢
      rw [hw.1, h]
    | succ i => simpa using wkl_at a b hw.2 i v (by simpa using h)
theorem lvP.weak {ls : Array Slot} {nL : Nat} {l l2 : List (Option Value)} (h : lvP ls nL l) (hw : wkl l2 l) : lvP ls nL l2 := ⟨h.1, h.2.1, fun i v hi => h.2.2 i v (wkl_at l2 l hw i v hi)⟩
def lvE (lv : List (Option Value)) : List (Nat × Value) := (List.range lv.length).filterMap (fun j => match lv[j]? with
  | some (some v) => some (j, v)
  | _ => none)
theorem lvE_mem {lv : List (Option Value)} {j : Nat} {v : Value} : (j, v) ∈ lvE lv ↔ lv[j]? = some (some v) := by
  unfold lvE
  rw [List.mem_filterMap]
  constructor
  · rintro ⟨i, hi, h⟩
    split at h
    · rename_i w hw
      cases h
      exact hw
    · cases h
  · intro h
    refine ⟨j, List.mem_range.mpr (List.getElem?_eq_some_iff.mp h).1, ?_⟩
    rw [h]
theorem lvP.store {ls : Array Slot} {nL : Nat} {lv : List (Option Value)} (h : lvP ls nL lv) {i : Nat} {v : Value} (hc : v.category = 1) (hi : i < nL) : ∃ ls', storeLocals ls i v = some ls' ∧ lvP ls' nL (lv.set i (some v)) := by
  obtain ⟨h1, h2, h3⟩ := h
  have hh : lv_has ls nL (lvE lv) := ⟨h1, h2, fun q hq => (h3 q.1 q.2 (lvE_mem.mp (by cases q; exact hq))).2⟩
  obtain ⟨ls', e1, g1, g2, g3⟩ := lv_store1 (v := v) hh hi hc
  refine ⟨ls', e1, g1, g2, fun j w hj => ?_⟩
  by_cases hij : i = j
  · subst hij
    by_cases hl : i < lv.length
    · rw [List.getElem?_set_self hl] at hj
      cases hj
      exact ⟨hc, g3 (i, v) List.mem_cons_self⟩
    · rw [List.getElem?_eq_none (by rw [List.length_set]; omega)] at hj
      cases hj
  · rw [List.getElem?_set_ne hij] at hj
    obtain ⟨c1, c2⟩ := h3 j w hj
    refine ⟨c1, g3 (j, w) (List.mem_cons_of_mem _ (List.mem_filter.mpr ⟨lvE_mem.mpr hj, ?_⟩))⟩
    have n1 : (j == i) = false := by simp; exact fun e => hij e.symm
    show (!(j == i) && !(j + 1 == i && w.category == 2)) = true
    rw [n1, c1]
    simp
/-- what holds of a method's start: the machine, the code, the class, the words, the tables -/
def Cx (strs : List (String × Nat × String)) (D : va_G) (cA : Nat → ClassId) (h0 : Nat) (p : Program) (l : Launch) (s : State) (m : MethodId) (args : Array Value) (meth : Method) (c : Code) (cc : ByteArray) (own : String) (nL : Nat) : Prop :=
  p.tables.exec = Jvm.exec ∧ c.code = cc ∧ c.maxLocals = nL ∧ s.vm.findClass own = some m.cls ∧ (∀ w ∈ gdL, w.before args s = true) ∧ Kx strs D cA h0 s ∧ l.stackTraces = false ∧ meth.locks = false
def QI (D : va_G) (cA : Nat → ClassId) (h0 : Nat) (res : (Int32 ⊕ String) × hpT) : Array Value → State → Outcome → State → Prop := va_Qi (S := Unit) (fun r _ => res.1 = .inl r) (fun _ t => Wd D cA h0 res.2 t.heap) (Af h0)
def QV (D : va_G) (cA : Nat → ClassId) (h0 : Nat) (res : (Unit ⊕ String) × hpT) : Array Value → State → Outcome → State → Prop := va_Qv (S := Unit) (fun _ => res.1 = .inl ()) (fun _ t => Wd D cA h0 res.2 t.heap) (Af h0)
def QR (D : va_G) (cA : Nat → ClassId) (h0 : Nat) (res : (Nat ⊕ String) × hpT) : Array Value → State → Outcome → State → Prop := va_Qq (S := Unit) (fun r _ => ∃ a, r = some a ∧ res.1 = .inl a) (fun _ t => Wd D cA h0 res.2 t.heap) (Af h0)
def XE {α : Type} (D : va_G) (cA : Nat → ClassId) (h0 : Nat) (res : (α ⊕ String) × hpT) : String → State → State → Prop := vx_X (S := Unit) (fun _ => True) (fun E _ t => res.1 = .inr E ∧ WdX D cA h0 res.2 t.heap) (Af h0)
section GG
variable {strs : List (String × Nat × String)} {D : va_G} {cA : Nat → ClassId} {h0 : Nat} {p : Program} {l : Launch} {e : Env} {R : Room} {s : State} {m : MethodId} {args : Array Value} {below : List Frame} {meth : Method} {c : Code} {nL cells slots : Nat} {Q : State → Prop} {hp : hpT} {pc : Nat} {lv : List (Option Value)} {st : List Value} {cc : ByteArray} {own : String}
def G (D : va_G) (cA : Nat → ClassId) (h0 : Nat) (p : Program) (l : Launch) (e : Env) (R : Room) (s : State) (m : MethodId) (args : Array Value) (below : List Frame) (meth : Method) (c : Code) (nL : Nat) (Q : State → Prop) (cells slots : Nat) (hp : hpT) (pc : Nat) (lv : List (Option Value)) (st : List Value) : Prop :=
  ∀ (H : Heap) (locs : List Loc) (ls : Array Slot), Wd D cA h0 hp H → va_S (Af h0) s.heap H locs → lvP ls nL lv → W p l e R s m args below meth c H locs cells slots Q (F0 m pc ls st)
theorem r_weak {lv2 : List (Option Value)} (hw : wkl lv2 lv) (k : G D cA h0 p l e R s m args below meth c nL Q cells slots hp pc lv2 st) : G D cA h0 p l e R s m args below meth c nL Q cells slots hp pc lv st := fun H locs ls h1 h2 h3 => k H locs ls h1 h2 (h3.weak hw)
theorem r_widen {k n : Nat} (h1 : cells ≤ k) (h2 : slots ≤ n) (kk : G D cA h0 p l e R s m args below meth c nL Q k n hp pc lv st) : G D cA h0 p l e R s m args below meth c nL Q cells slots hp pc lv st := fun H locs ls a1 a2 a3 => W.widen h1 h2 (kk H locs ls a1 a2 a3)
theorem r_ofW (K : Cx strs D cA h0 p l s m args meth c cc own nL) {g2 : Nat × List Value} (f : ∀ (H : Heap) (locs : List Loc) (ls : Array Slot), lvP ls nL lv → W p l e R s m args below meth c H locs cells slots Q (F0 m g2.1 ls g2.2) → W p l e R s m args below meth c H locs cells slots Q (F0 m pc ls st)) (k : G D cA h0 p l e R s m args below meth c nL Q cells slots hp g2.1 lv g2.2) : G D cA h0 p l e R s m args below meth c nL Q cells slots hp pc lv st := fun H locs ls a1 a2 a3 => f H locs ls a3 (k H locs ls a1 a2 a3)
theorem r_iconst (K : Cx strs D cA h0 p l s m args meth c cc own nL) {n : Int} {v : Int32} (d : decode cc pc = .ok (.iconst n, 1)) (hv : Int32.ofInt n = v) (k : G D cA h0 p l e R s m args below meth c nL Q cells slots hp (pc + 1) lv (.int v :: st)) : G D cA h0 p l e R s m args below meth c nL Q cells slots hp pc lv st := r_ofW K (g2 := (_, _)) (fun _ _ _ _ w => lv_iconst K.1 K.2.1 d hv w) k
theorem r_bipush (K : Cx strs D cA h0 p l s m args meth c cc own nL) {n : Int} {v : Int32} (d : decode cc pc = .ok (.bipush n, 2)) (hv : (Int8.ofInt n).toInt32 = v) (k : G D cA h0 p l e R s m args below meth c nL Q cells slots hp (pc + 2) lv (.int v :: st)) : G D cA h0 p l e R s m args below meth c nL Q cells slots hp pc lv st := r_ofW K (g2 := (_, _)) (fun _ _ _ _ w => lv_bipush K.1 K.2.1 d hv w) k
theorem r_sipush (K : Cx strs D cA h0 p l s m args meth c cc own nL) {n : Int} {v : Int32} (d : decode cc pc = .ok (.sipush n, 3)) (hv : (Int16.ofInt n).toInt32 = v) (k : G D cA h0 p l e R s m args below meth c nL Q cells slots hp (pc + 3) lv (.int v :: st)) : G D cA h0 p l e R s m args below meth c nL Q cells slots hp pc lv st := r_ofW K (g2 := (_, _)) (fun _ _ _ _ w => lv_sipush K.1 K.2.1 d hv w) k
theorem r_null (K : Cx strs D cA h0 p l s m args meth c cc own nL) (d : decode cc pc = .ok (.aconst_null, 1)) (k : G D cA h0 p l e R s m args below meth c nL Q cells slots hp (pc + 1) lv (va_rf none :: st)) : G D cA h0 p l e R s m args below meth c nL Q cells slots hp pc lv st := r_ofW K (g2 := (_, _)) (fun _ _ _ _ w => lv_null K.1 K.2.1 d w) k
theorem r_iload_n (K : Cx strs D cA h0 p l s m args meth c cc own nL) {j : Fin 4} {x : Int32} (d : decode cc pc = .ok (.iload_n j, 1)) (hx : lv[(j : Nat)]? = some (some (.int x))) (k : G D cA h0 p l e R s m args below meth c nL Q cells slots hp (pc + 1) lv (.int x :: st)) : G D cA h0 p l e R s m args below meth c nL Q cells slots hp pc lv st := r_ofW K (g2 := (_, _)) (fun _ _ _ a w => lv_iload_n K.1 K.2.1 d rfl (a.at hx) w) k
theorem r_iload (K : Cx strs D cA h0 p l s m args meth c cc own nL) {j : Nat} {x : Int32} (d : decode cc pc = .ok (.iload j, 2)) (hx : lv[j]? = some (some (.int x))) (k : G D cA h0 p l e R s m args below meth c nL Q cells slots hp (pc + 2) lv (.int x :: st)) : G D cA h0 p l e R s m args below meth c nL Q cells slots hp pc lv st := r_ofW K (g2 := (_, _)) (fun _ _ _ a w => lv_iload K.1 K.2.1 d (a.at hx) w) k
theorem r_aload_n (K : Cx strs D cA h0 p l s m args meth c cc own nL) {j : Fin 4} {x : Option Nat} (d : decode cc pc = .ok (.aload_n j, 1)) (hx : lv[(j : Nat)]? = some (some (va_rf x))) (k : G D cA h0 p l e R s m args below meth c nL Q cells slots hp (pc + 1) lv (va_rf x :: st)) : G D cA h0 p l e R s m args below meth c nL Q cells slots hp pc lv st := by
  cases x with
  | none => exact r_ofW K (g2 := (_, _)) (fun _ _ _ a w => lv_aload_nN K.1 K.2.1 d rfl (a.at hx) w) k
  | some x => exact r_ofW K (g2 := (_, _)) (fun _ _ _ a w => lv_aload_n K.1 K.2.1 d rfl (a.at hx) w) k
theorem r_aload (K : Cx strs D cA h0 p l s m args meth c cc own nL) {j : Nat} {x : Option Nat} (d : decode cc pc = .ok (.aload j, 2)) (hx : lv[j]? = some (some (va_rf x))) (k : G D cA h0 p l e R s m args below meth c nL Q cells slots hp (pc + 2) lv (va_rf x :: st)) : G D cA h0 p l e R s m args below meth c nL Q cells slots hp pc lv st := by
  cases x with
  | none => exact r_ofW K (g2 := (_, _)) (fun _ _ _ a w => lv_aloadN K.1 K.2.1 d (a.at hx) w) k
  | some x => exact r_ofW K (g2 := (_, _)) (fun _ _ _ a w => lv_aload K.1 K.2.1 d (a.at hx) w) k
theorem r_istore_n (K : Cx strs D cA h0 p l s m args meth c cc own nL) {j : Fin 4} {x : Int32} {lv' : List (Option Value)} (d : decode cc pc = .ok (.istore_n j, 1)) (hn : (j : Nat) < nL) (hl : lv.set (j : Nat) (some (.int x)) = lv') (k : G D cA h0 p l e R s m args below meth c nL Q cells slots hp (pc + 1) lv' st) : G D cA h0 p l e R s m args below meth c nL Q cells slots hp pc lv (.int x :: st) := by
  intro H locs ls a1 a2 a3 T hT X
  obtain ⟨ls', e', h'⟩ := a3.store (v := .int x) rfl hn
  rw [hl] at h'
  obtain ⟨t, a, b⟩ := k H locs ls' a1 a2 h' T hT X
  obtain ⟨hexec, hb, -⟩ := K
  refine ⟨t, ?_, b⟩
  jvm_step X.here [X.here.top, ↓top_set X.here.top, hexec, hb, d, e']
  exact a
theorem r_istore (K : Cx strs D cA h0 p l s m args meth c cc own nL) {j : Nat} {x : Int32} {lv' : List (Option Value)} (d : decode cc pc = .ok (.istore j, 2)) (hn : j < nL) (hl : lv.set j (some (.int x)) = lv') (k : G D cA h0 p l e R s m args below meth c nL Q cells slots hp (pc + 2) lv' st) : G D cA h0 p l e R s m args below meth c nL Q cells slots hp pc lv (.int x :: st) := by
  intro H locs ls a1 a2 a3 T hT X
  obtain ⟨ls', e', h'⟩ := a3.store (v := .int x) rfl hn
  rw [hl] at h'
  obtain ⟨t, a, b⟩ := k H locs ls' a1 a2 h' T hT X
  obtain ⟨hexec, hb, -⟩ := K
  refine ⟨t, ?_, b⟩
  jvm_step X.here [X.here.top, ↓top_set X.here.top, hexec, hb, d, e']
  exact a
theorem va_rf_cat (x : Option Nat) : (va_rf x).category = 1 := by cases x <;> rfl
theorem r_astore_n (K : Cx strs D cA h0 p l s m args meth c cc own nL) {j : Fin 4} {x : Option Nat} {lv' : List (Option Value)} (d : decode cc pc = .ok (.astore_n j, 1)) (hn : (j : Nat) < nL) (hl : lv.set (j : Nat) (some (va_rf x)) = lv') (k : G D cA h0 p l e R s m args below meth c nL Q cells slots hp (pc + 1) lv' st) : G D cA h0 p l e R s m args below meth c nL Q cells slots hp pc lv (va_rf x :: st) := by
  intro H locs ls a1 a2 a3 T hT X
  obtain ⟨ls', e', h'⟩ := a3.store (v := va_rf x) (va_rf_cat x) hn
  rw [hl] at h'
  obtain ⟨t, a, b⟩ := k H locs ls' a1 a2 h' T hT X
  obtain ⟨hexec, hb, -⟩ := K
  refine ⟨t, ?_, b⟩
  cases x <;> (simp only [va_rf] at e' ⊢; jvm_step X.here [X.here.top, ↓top_set X.here.top, hexec, hb, d, e', Value.isRef]; exact a)
theorem r_astore (K : Cx strs D cA h0 p l s m args meth c cc own nL) {j : Nat} {x : Option Nat} {lv' : List (Option Value)} (d : decode cc pc = .ok (.astore j, 2)) (hn : j < nL) (hl : lv.set j (some (va_rf x)) = lv') (k : G D cA h0 p l e R s m args below meth c nL Q cells slots hp (pc + 2) lv' st) : G D cA h0 p l e R s m args below meth c nL Q cells slots hp pc lv (va_rf x :: st) := by
  intro H locs ls a1 a2 a3 T hT X
  obtain ⟨ls', e', h'⟩ := a3.store (v := va_rf x) (va_rf_cat x) hn
  rw [hl] at h'
  obtain ⟨t, a, b⟩ := k H locs ls' a1 a2 h' T hT X
  obtain ⟨hexec, hb, -⟩ := K
  refine ⟨t, ?_, b⟩
  cases x <;> (simp only [va_rf] at e' ⊢; jvm_step X.here [X.here.top, ↓top_set X.here.top, hexec, hb, d, e', Value.isRef]; exact a)
theorem r_iinc (K : Cx strs D cA h0 p l s m args meth c cc own nL) {j : Nat} {n : Int} {x v : Int32} {lv' : List (Option Value)} (d : decode cc pc = .ok (.iinc j n, 3)) (hx : lv[j]? = some (some (.int x))) (hv : x + Int32.ofInt n = v) (hn : j < nL) (hl : lv.set j (some (.int v)) = lv') (k : G D cA h0 p l e R s m args below meth c nL Q cells slots hp (pc + 3) lv' st) : G D cA h0 p l e R s m args below meth c nL Q cells slots hp pc lv st := by
  intro H locs ls a1 a2 a3 T hT X
  obtain ⟨ls', e', h'⟩ := a3.store (v := .int v) rfl hn
  rw [hl] at h'
  have hg := a3.at hx
  obtain ⟨t, a, b⟩ := k H locs ls' a1 a2 h' T hT X
  obtain ⟨hexec, hb, -⟩ := K
  refine ⟨t, ?_, b⟩
  jvm_step X.here [X.here.top, ↓top_set X.here.top, hexec, hb, d, hg, hv, e']
  exact a
theorem r_iadd (K : Cx strs D cA h0 p l s m args meth c cc own nL) {x y : Int32} (d : decode cc pc = .ok (.iadd, 1)) (k : G D cA h0 p l e R s m args below meth c nL Q cells slots hp (pc + 1) lv (.int (x + y) :: st)) : G D cA h0 p l e R s m args below meth c nL Q cells slots hp pc lv (.int y :: .int x :: st) := r_ofW K (g2 := (_, _)) (fun _ _ _ _ w => lv_iadd K.1 K.2.1 d w) k
theorem r_isub (K : Cx strs D cA h0 p l s m args meth c cc own nL) {x y : Int32} (d : decode cc pc = .ok (.isub, 1)) (k : G D cA h0 p l e R s m args below meth c nL Q cells slots hp (pc + 1) lv (.int (x - y) :: st)) : G D cA h0 p l e R s m args below meth c nL Q cells slots hp pc lv (.int y :: .int x :: st) := r_ofW K (g2 := (_, _)) (fun _ _ _ _ w => lv_isub K.1 K.2.1 d w) k
theorem r_imul (K : Cx strs D cA h0 p l s m args meth c cc own nL) {x y : Int32} (d : decode cc pc = .ok (.imul, 1)) (k : G D cA h0 p l e R s m args below meth c nL Q cells slots hp (pc + 1) lv (.int (x * y) :: st)) : G D cA h0 p l e R s m args below meth c nL Q cells slots hp pc lv (.int y :: .int x :: st) := r_ofW K (g2 := (_, _)) (fun _ _ _ _ w => lv_imul K.1 K.2.1 d w) k
theorem r_ixor (K : Cx strs D cA h0 p l s m args meth c cc own nL) {x y : Int32} (d : decode cc pc = .ok (.ixor, 1)) (k : G D cA h0 p l e R s m args below meth c nL Q cells slots hp (pc + 1) lv (.int (x ^^^ y) :: st)) : G D cA h0 p l e R s m args below meth c nL Q cells slots hp pc lv (.int y :: .int x :: st) := r_ofW K (g2 := (_, _)) (fun _ _ _ _ w => lv_ixor K.1 K.2.1 d w) k
theorem r_iand (K : Cx strs D cA h0 p l s m args meth c cc own nL) {x y : Int32} (d : decode cc pc = .ok (.iand, 1)) (k : G D cA h0 p l e R s m args below meth c nL Q cells slots hp (pc + 1) lv (.int (x &&& y) :: st)) : G D cA h0 p l e R s m args below meth c nL Q cells slots hp pc lv (.int y :: .int x :: st) := r_ofW K (g2 := (_, _)) (fun _ _ _ _ w => lv_iand K.1 K.2.1 d w) k
theorem r_idiv {α : Type} {res : (α ⊕ String) × hpT} {F : Rs α} (K : Cx strs D cA h0 p l s m args meth c cc own nL) {x y : Int32} (d : decode cc pc = .ok (.idiv, 1)) (h : nz y F = some res) (k : F = some res → G D cA h0 p l e R s m args below meth c nL Q cells slots hp (pc + 1) lv (.int (x / y) :: st)) : G D cA h0 p l e R s m args below meth c nL Q cells slots hp pc lv (.int y :: .int x :: st) := r_ofW K (g2 := (_, _)) (fun _ _ _ _ w => lv_idiv K.1 K.2.1 d (nz_inv h).1 w) (k (nz_inv h).2)
theorem r_irem {α : Type} {res : (α ⊕ String) × hpT} {F : Rs α} (K : Cx strs D cA h0 p l s m args meth c cc own nL) {x y : Int32} (d : decode cc pc = .ok (.irem, 1)) (h : nz y F = some res) (k : F = some res → G D cA h0 p l e R s m args below meth c nL Q cells slots hp (pc + 1) lv (.int (irm x y) :: st)) : G D cA h0 p l e R s m args below meth c nL Q cells slots hp pc lv (.int y :: .int x :: st) := r_ofW K (g2 := (_, _)) (fun _ _ _ _ w => lv_irem K.1 K.2.1 d (nz_inv h).1 w) (k (nz_inv h).2)
theorem r_dup (K : Cx strs D cA h0 p l s m args meth c cc own nL) {v : Value} (d : decode cc pc = .ok (.dup, 1)) (hv : v.category = 1) (k : G D cA h0 p l e R s m args below meth c nL Q cells slots hp (pc + 1) lv (v :: v :: st)) : G D cA h0 p l e R s m args below meth c nL Q cells slots hp pc lv (v :: st) := r_ofW K (g2 := (_, _)) (fun _ _ _ _ w => lv_dup K.1 K.2.1 d hv w) k
theorem r_pop (K : Cx strs D cA h0 p l s m args meth c cc own nL) {v : Value} (d : decode cc pc = .ok (.pop, 1)) (hv : v.category = 1) (k : G D cA h0 p l e R s m args below meth c nL Q cells slots hp (pc + 1) lv st) : G D cA h0 p l e R s m args below meth c nL Q cells slots hp pc lv (v :: st) := r_ofW K (g2 := (_, _)) (fun _ _ _ _ w => lv_pop K.1 K.2.1 d hv w) k
theorem r_dup2 (K : Cx strs D cA h0 p l s m args meth c cc own nL) {v w : Value} (d : decode cc pc = .ok (.dup2, 1)) (hv : v.category = 1) (hw : w.category = 1) (k : G D cA h0 p l e R s m args below meth c nL Q cells slots hp (pc + 1) lv (v :: w :: v :: w :: st)) : G D cA h0 p l e R s m args below meth c nL Q cells slots hp pc lv (v :: w :: st) := r_ofW K (g2 := (_, _)) (fun _ _ _ _ k9 => lv_dup2_11 K.1 K.2.1 d hv hw k9) k
theorem r_goto (K : Cx strs D cA h0 p l s m args meth c cc own nL) {off : Int} {tgt : Nat} (d : decode cc pc = .ok (.goto off, 3)) (ht : (pc : Int) + off = (tgt : Int)) (k : G D cA h0 p l e R s m args below meth c nL Q cells slots hp tgt lv st) : G D cA h0 p l e R s m args below meth c nL Q cells slots hp pc lv st := r_ofW K (g2 := (_, _)) (fun _ _ _ _ w => lv_goto K.1 K.2.1 d ht w) k
-- branches: the function says 'if condition then target else next'
theorem r_if_eq {α : Type} {res : (α ⊕ String) × hpT} {Ft Ff : Rs α} {off : Int} {tgt : Nat} (K : Cx strs D cA h0 p l s m args meth c cc own nL) {x : Int32} (d : decode cc pc = .ok (.ifCond .eq off, 3)) (ht : (pc : Int) + off = (tgt : Int)) (h : (if x = 0 then Ft else Ff) = some res) (kt : Ft = some res → x = 0 → G D cA h0 p l e R s m args below meth c nL Q cells slots hp tgt lv st) (kf : Ff = some res → ¬ (x = 0) → G D cA h0 p l e R s m args below meth c nL Q cells slots hp (pc + 3) lv st) : G D cA h0 p l e R s m args below meth c nL Q cells slots hp pc lv (.int x :: st) := fun H locs ls a1 a2 a3 => lv_if_eq K.1 K.2.1 d ht (fun q => kt (by rw [if_pos q] at h; exact h) q H locs ls a1 a2 a3) (fun q => kf (by rw [if_neg q] at h; exact h) q H locs ls a1 a2 a3)
theorem r_icmp_eq {α : Type} {res : (α ⊕ String) × hpT} {Ft Ff : Rs α} {off : Int} {tgt : Nat} (K : Cx strs D cA h0 p l s m args meth c cc own nL) {x y : Int32} (d : decode cc pc = .ok (.if_icmp .eq off, 3)) (ht : (pc : Int) + off = (tgt : Int)) (h : (if x = y then Ft else Ff) = some res) (kt : Ft = some res → x = y → G D cA h0 p l e R s m args below meth c nL Q cells slots hp tgt lv st) (kf : Ff = some res → ¬ (x = y) → G D cA h0 p l e R s m args below meth c nL Q cells slots hp (pc + 3) lv st) : G D cA h0 p l e R s m args below meth c nL Q cells slots hp pc lv (.int y :: .int x :: st) := fun H locs ls a1 a2 a3 => lv_icmp_eq K.1 K.2.1 d ht (fun q => kt (by rw [if_pos q] at h; exact h) q H locs ls a1 a2 a3) (fun q => kf (by rw [if_neg q] at h; exact h) q H locs ls a1 a2 a3)
theorem r_if_ne {α : Type} {res : (α ⊕ String) × hpT} {Ft Ff : Rs α} {off : Int} {tgt : Nat} (K : Cx strs D cA h0 p l s m args meth c cc own nL) {x : Int32} (d : decode cc pc = .ok (.ifCond .ne off, 3)) (ht : (pc : Int) + off = (tgt : Int)) (h : (if x = 0 then Ff else Ft) = some res) (kt : Ft = some res → ¬ (x = 0) → G D cA h0 p l e R s m args below meth c nL Q cells slots hp tgt lv st) (kf : Ff = some res → x = 0 → G D cA h0 p l e R s m args below meth c nL Q cells slots hp (pc + 3) lv st) : G D cA h0 p l e R s m args below meth c nL Q cells slots hp pc lv (.int x :: st) := fun H locs ls a1 a2 a3 => lv_if_ne K.1 K.2.1 d ht (fun q => kt (by rw [if_neg q] at h; exact h) q H locs ls a1 a2 a3) (fun q => kf (by rw [if_pos q] at h; exact h) q H locs ls a1 a2 a3)
theorem r_icmp_ne {α : Type} {res : (α ⊕ String) × hpT} {Ft Ff : Rs α} {off : Int} {tgt : Nat} (K : Cx strs D cA h0 p l s m args meth c cc own nL) {x y : Int32} (d : decode cc pc = .ok (.if_icmp .ne off, 3)) (ht : (pc : Int) + off = (tgt : Int)) (h : (if x = y then Ff else Ft) = some res) (kt : Ft = some res → ¬ (x = y) → G D cA h0 p l e R s m args below meth c nL Q cells slots hp tgt lv st) (kf : Ff = some res → x = y → G D cA h0 p l e R s m args below meth c nL Q cells slots hp (pc + 3) lv st) : G D cA h0 p l e R s m args below meth c nL Q cells slots hp pc lv (.int y :: .int x :: st) := fun H locs ls a1 a2 a3 => lv_icmp_ne K.1 K.2.1 d ht (fun q => kt (by rw [if_neg q] at h; exact h) q H locs ls a1 a2 a3) (fun q => kf (by rw [if_pos q] at h; exact h) q H locs ls a1 a2 a3)
theorem r_if_lt {α : Type} {res : (α ⊕ String) × hpT} {Ft Ff : Rs α} {off : Int} {tgt : Nat} (K : Cx strs D cA h0 p l s m args meth c cc own nL) {x : Int32} (d : decode cc pc = .ok (.ifCond .lt off, 3)) (ht : (pc : Int) + off = (tgt : Int)) (h : (if x < 0 then Ft else Ff) = some res) (kt : Ft = some res → x < 0 → G D cA h0 p l e R s m args below meth c nL Q cells slots hp tgt lv st) (kf : Ff = some res → ¬ (x < 0) → G D cA h0 p l e R s m args below meth c nL Q cells slots hp (pc + 3) lv st) : G D cA h0 p l e R s m args below meth c nL Q cells slots hp pc lv (.int x :: st) := fun H locs ls a1 a2 a3 => lv_if_lt K.1 K.2.1 d ht (fun q => kt (by rw [if_pos q] at h; exact h) q H locs ls a1 a2 a3) (fun q => kf (by rw [if_neg q] at h; exact h) q H locs ls a1 a2 a3)
theorem r_icmp_lt {α : Type} {res : (α ⊕ String) × hpT} {Ft Ff : Rs α} {off : Int} {tgt : Nat} (K : Cx strs D cA h0 p l s m args meth c cc own nL) {x y : Int32} (d : decode cc pc = .ok (.if_icmp .lt off, 3)) (ht : (pc : Int) + off = (tgt : Int)) (h : (if x < y then Ft else Ff) = some res) (kt : Ft = some res → x < y → G D cA h0 p l e R s m args below meth c nL Q cells slots hp tgt lv st) (kf : Ff = some res → ¬ (x < y) → G D cA h0 p l e R s m args below meth c nL Q cells slots hp (pc + 3) lv st) : G D cA h0 p l e R s m args below meth c nL Q cells slots hp pc lv (.int y :: .int x :: st) := fun H locs ls a1 a2 a3 => lv_icmp_lt K.1 K.2.1 d ht (fun q => kt (by rw [if_pos q] at h; exact h) q H locs ls a1 a2 a3) (fun q => kf (by rw [if_neg q] at h; exact h) q H locs ls a1 a2 a3)
theorem r_if_ge {α : Type} {res : (α ⊕ String) × hpT} {Ft Ff : Rs α} {off : Int} {tgt : Nat} (K : Cx strs D cA h0 p l s m args meth c cc own nL) {x : Int32} (d : decode cc pc = .ok (.ifCond .ge off, 3)) (ht : (pc : Int) + off = (tgt : Int)) (h : (if 0 ≤ x then Ft else Ff) = some res) (kt : Ft = some res → 0 ≤ x → G D cA h0 p l e R s m args below meth c nL Q cells slots hp tgt lv st) (kf : Ff = some res → ¬ (0 ≤ x) → G D cA h0 p l e R s m args below meth c nL Q cells slots hp (pc + 3) lv st) : G D cA h0 p l e R s m args below meth c nL Q cells slots hp pc lv (.int x :: st) := fun H locs ls a1 a2 a3 => lv_if_ge K.1 K.2.1 d ht (fun q => kt (by rw [if_pos q] at h; exact h) q H locs ls a1 a2 a3) (fun q => kf (by rw [if_neg q] at h; exact h) q H locs ls a1 a2 a3)
theorem r_icmp_ge {α : Type} {res : (α ⊕ String) × hpT} {Ft Ff : Rs α} {off : Int} {tgt : Nat} (K : Cx strs D cA h0 p l s m args meth c cc own nL) {x y : Int32} (d : decode cc pc = .ok (.if_icmp .ge off, 3)) (ht : (pc : Int) + off = (tgt : Int)) (h : (if y ≤ x then Ft else Ff) = some res) (kt : Ft = some res → y ≤ x → G D cA h0 p l e R s m args below meth c nL Q cells slots hp tgt lv st) (kf : Ff = some res → ¬ (y ≤ x) → G D cA h0 p l e R s m args below meth c nL Q cells slots hp (pc + 3) lv st) : G D cA h0 p l e R s m args below meth c nL Q cells slots hp pc lv (.int y :: .int x :: st) := fun H locs ls a1 a2 a3 => lv_icmp_ge K.1 K.2.1 d ht (fun q => kt (by rw [if_pos q] at h; exact h) q H locs ls a1 a2 a3) (fun q => kf (by rw [if_neg q] at h; exact h) q H locs ls a1 a2 a3)
theorem r_if_gt {α : Type} {res : (α ⊕ String) × hpT} {Ft Ff : Rs α} {off : Int} {tgt : Nat} (K : Cx strs D cA h0 p l s m args meth c cc own nL) {x : Int32} (d : decode cc pc = .ok (.ifCond .gt off, 3)) (ht : (pc : Int) + off = (tgt : Int)) (h : (if 0 < x then Ft else Ff) = some res) (kt : Ft = some res → 0 < x → G D cA h0 p l e R s m args below meth c nL Q cells slots hp tgt lv st) (kf : Ff = some res → ¬ (0 < x) → G D cA h0 p l e R s m args below meth c nL Q cells slots hp (pc + 3) lv st) : G D cA h0 p l e R s m args below meth c nL Q cells slots hp pc lv (.int x :: st) := fun H locs ls a1 a2 a3 => lv_if_gt K.1 K.2.1 d ht (fun q => kt (by rw [if_pos q] at h; exact h) q H locs ls a1 a2 a3) (fun q => kf (by rw [if_neg q] at h; exact h) q H locs ls a1 a2 a3)
theorem r_icmp_gt {α : Type} {res : (α ⊕ String) × hpT} {Ft Ff : Rs α} {off : Int} {tgt : Nat} (K : Cx strs D cA h0 p l s m args meth c cc own nL) {x y : Int32} (d : decode cc pc = .ok (.if_icmp .gt off, 3)) (ht : (pc : Int) + off = (tgt : Int)) (h : (if y < x then Ft else Ff) = some res) (kt : Ft = some res → y < x → G D cA h0 p l e R s m args below meth c nL Q cells slots hp tgt lv st) (kf : Ff = some res → ¬ (y < x) → G D cA h0 p l e R s m args below meth c nL Q cells slots hp (pc + 3) lv st) : G D cA h0 p l e R s m args below meth c nL Q cells slots hp pc lv (.int y :: .int x :: st) := fun H locs ls a1 a2 a3 => lv_icmp_gt K.1 K.2.1 d ht (fun q => kt (by rw [if_pos q] at h; exact h) q H locs ls a1 a2 a3) (fun q => kf (by rw [if_neg q] at h; exact h) q H locs ls a1 a2 a3)
theorem r_if_le {α : Type} {res : (α ⊕ String) × hpT} {Ft Ff : Rs α} {off : Int} {tgt : Nat} (K : Cx strs D cA h0 p l s m args meth c cc own nL) {x : Int32} (d : decode cc pc = .ok (.ifCond .le off, 3)) (ht : (pc : Int) + off = (tgt : Int)) (h : (if x ≤ 0 then Ft else Ff) = some res) (kt : Ft = some res → x ≤ 0 → G D cA h0 p l e R s m args below meth c nL Q cells slots hp tgt lv st) (kf : Ff = some res → ¬ (x ≤ 0) → G D cA h0 p l e R s m args below meth c nL Q cells slots hp (pc + 3) lv st) : G D cA h0 p l e R s m args below meth c nL Q cells slots hp pc lv (.int x :: st) := fun H locs ls a1 a2 a3 => lv_if_le K.1 K.2.1 d ht (fun q => kt (by rw [if_pos q] at h; exact h) q H locs ls a1 a2 a3) (fun q => kf (by rw [if_neg q] at h; exact h) q H locs ls a1 a2 a3)
theorem r_icmp_le {α : Type} {res : (α ⊕ String) × hpT} {Ft Ff : Rs α} {off : Int} {tgt : Nat} (K : Cx strs D cA h0 p l s m args meth c cc own nL) {x y : Int32} (d : decode cc pc = .ok (.if_icmp .le off, 3)) (ht : (pc : Int) + off = (tgt : Int)) (h : (if x ≤ y then Ft else Ff) = some res) (kt : Ft = some res → x ≤ y → G D cA h0 p l e R s m args below meth c nL Q cells slots hp tgt lv st) (kf : Ff = some res → ¬ (x ≤ y) → G D cA h0 p l e R s m args below meth c nL Q cells slots hp (pc + 3) lv st) : G D cA h0 p l e R s m args below meth c nL Q cells slots hp pc lv (.int y :: .int x :: st) := fun H locs ls a1 a2 a3 => lv_icmp_le K.1 K.2.1 d ht (fun q => kt (by rw [if_pos q] at h; exact h) q H locs ls a1 a2 a3) (fun q => kf (by rw [if_neg q] at h; exact h) q H locs ls a1 a2 a3)
theorem r_ifnull {α : Type} {res : (α ⊕ String) × hpT} {A : Rs α} {B : Nat → Rs α} {off : Int} {tgt : Nat} {r : Option Nat} (K : Cx strs D cA h0 p l s m args meth c cc own nL) (d : decode cc pc = .ok (.ifnull off, 3)) (ht : (pc : Int) + off = (tgt : Int)) (h : nlc r A B = some res) (kt : r = none → A = some res → G D cA h0 p l e R s m args below meth c nL Q cells slots hp tgt lv st) (kf : ∀ a, r = some a → B a = some res → G D cA h0 p l e R s m args below meth c nL Q cells slots hp (pc + 3) lv st) : G D cA h0 p l e R s m args below meth c nL Q cells slots hp pc lv (va_rf r :: st) := by
  cases r with
  | none => exact r_ofW K (g2 := (_, _)) (fun _ _ _ _ w => lv_ifnullN K.1 K.2.1 d ht w) (kt rfl h)
  | some a => exact r_ofW K (g2 := (_, _)) (fun _ _ _ _ w => lv_ifnull K.1 K.2.1 d w) (kf a rfl h)
theorem r_ifnonnull {α : Type} {res : (α ⊕ String) × hpT} {A : Rs α} {B : Nat → Rs α} {off : Int} {tgt : Nat} {r : Option Nat} (K : Cx strs D cA h0 p l s m args meth c cc own nL) (d : decode cc pc = .ok (.ifnonnull off, 3)) (ht : (pc : Int) + off = (tgt : Int)) (h : nlc r A B = some res) (kt : r = none → A = some res → G D cA h0 p l e R s m args below meth c nL Q cells slots hp (pc + 3) lv st) (kf : ∀ a, r = some a → B a = some res → G D cA h0 p l e R s m args below meth c nL Q cells slots hp tgt lv st) : G D cA h0 p l e R s m args below meth c nL Q cells slots hp pc lv (va_rf r :: st) := by
  cases r with
  | none => exact r_ofW K (g2 := (_, _)) (fun _ _ _ _ w => lv_ifnonnullN K.1 K.2.1 d w) (kt rfl h)
  | some a => exact r_ofW K (g2 := (_, _)) (fun _ _ _ _ w => lv_ifnonnull K.1 K.2.1 d ht w) (kf a rfl h)
end GG
