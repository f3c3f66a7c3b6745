/-! rows of the heap -/
/-- a place of the constant pool of own names the field k of the class of kind ci, as a link of its own or of its nest -/
def FLK (own : String) (ix ci k : Nat) : Prop := ∃ (C : String) (T : u_T) (N : Nat) (ty : Nat → FieldType), vwCl[ci]? = some (C, T, N) ∧ k < N ∧ (∀ w ∈ u_ws C T N, w ∈ gdL) ∧ (∀ k, k < N → parseFieldDescriptor (T k).2.2.1 = some (ty k)) ∧ (∀ a, a < N → ∀ b, b < N → a ≠ b → (T a).2.1 ≠ (T b).2.1) ∧ (T k).1 = C ∧ (Cond.fieldLink own ix C (T k).2.1 (T k).2.2.1 ∈ gdL ∨ ∃ host, Cond.fieldLinkNest own ix C (T k).2.1 (T k).2.2.1 host ∈ ngL)
/-- .. and it isn't final; its type -/
def FLN (ci k : Nat) (ty : FieldType) : Prop := ∀ (C : String) (T : u_T) (N : Nat), vwCl[ci]? = some (C, T, N) → (T k).2.2.2 = false ∧ parseFieldDescriptor (T k).2.2.1 = some ty
/-- .. and it is final, and of the class own -/
def FLF (own : String) (ci k : Nat) (ty : FieldType) : Prop := ∀ (C : String) (T : u_T) (N : Nat), vwCl[ci]? = some (C, T, N) → (T k).2.2.2 = true ∧ parseFieldDescriptor (T k).2.2.1 = some ty ∧ (T k).1 = own
section GH
variable {strs : List (String × Nat × String)} {D : va_G} {cA : Nat → ClassId} {h0 : Nat} {p : Program} {l : Launch} {e : Env} {R : Room} {s : State} {m : MethodId} {args : Array Value} {below : List Frame} {meth : Method} {c : Code} {nL cells slots : Nat} {Q : State → Prop} {hp : hpT} {pc : Nat} {lv : List (Option Value)} {st : List Value} {cc : ByteArray} {own : String}
variable {α : Type} {res : (α ⊕ String) × hpT}
theorem r_getV (K : Cx strs D cA h0 p l s m args meth c cc own nL) {ix ci k a : Nat} {fs : List Value} {v : Value} (d : decode cc pc = .ok (.getfield ix, 3)) (fl : FLK own ix ci k) (ha : hp.2 a = some (.inr (ci, fs))) (hv : fs[k]? = some v) (kk : G D cA h0 p l e R s m args below meth c nL Q cells slots hp (pc + 3) lv (v :: st)) : G D cA h0 p l e R s m args below meth c nL Q cells slots hp pc lv (va_rf (some a) :: st) := by
  intro H locs ls a1 a2 a3
  obtain ⟨C, T, N, ty, f1, f2, f3, f4, f5, f6, f7⟩ := fl
  obtain ⟨hx, hb, hml, hown, hts, hK, -⟩ := K
  rcases f7 with h | ⟨host, h⟩
  · exact va_get (D := D) (ref := C) (cl := vwCl) (tys := KT cA) hx hb hts f3 hown hK.1 (a1.obj ha) 0 rfl f1 k f2 (hts _ h) (fun x h9 => by rw [← f6]; rw [f6] at h9 ⊢; exact h9) hv d (kk H locs ls a1 a2 a3)
  · exact va_getN (D := D) (ref := C) (host := host) (cl := vwCl) (tys := KT cA) hx hb hts f3 hown hK.1 (a1.obj ha) 0 rfl f1 k f2 (va_Nw.use rfl (hK.2.1 _ h)) (fun x h9 => by rw [f6] at h9; exact h9) hv d (kk H locs ls a1 a2 a3)
theorem r_getI (K : Cx strs D cA h0 p l s m args meth c cc own nL) {ix ci k a : Nat} {F : Int32 → Rs α} (d : decode cc pc = .ok (.getfield ix, 3)) (fl : FLK own ix ci k) (h : gfI hp a ci k F = some res) (kk : ∀ x, F x = some res → G D cA h0 p l e R s m args below meth c nL Q cells slots hp (pc + 3) lv (.int x :: st)) : G D cA h0 p l e R s m args below meth c nL Q cells slots hp pc lv (va_rf (some a) :: st) := by
  obtain ⟨fs, x, h1, h2, h3⟩ := gfI_inv h
  exact r_getV K d fl h1 h2 (kk x h3)
theorem r_getR (K : Cx strs D cA h0 p l s m args meth c cc own nL) {ix ci k a : Nat} {F : Option Nat → Rs α} (d : decode cc pc = .ok (.getfield ix, 3)) (fl : FLK own ix ci k) (h : gfR hp a ci k F = some res) (kk : ∀ x, F x = some res → G D cA h0 p l e R s m args below meth c nL Q cells slots hp (pc + 3) lv (va_rf x :: st)) : G D cA h0 p l e R s m args below meth c nL Q cells slots hp pc lv (va_rf (some a) :: st) := by
  obtain ⟨fs, x, h1, h2, h3⟩ := gfR_inv h
  exact r_getV K d fl h1 h2 (kk x h3)
theorem fl_same {s : State} {C : String} {T : u_T} {k : Nat} (f6 : (T k).1 = C) : ∀ x, s.fieldFound? (T k).1 (T k).2.1 (T k).2.2.1 = some x → s.fieldFound? C (T k).2.1 (T k).2.2.1 = some x := fun x h => by rw [f6] at h; exact h
/-- a field that isn't final -/
theorem r_put (K : Cx strs D cA h0 p l s m args meth c cc own nL) {ix ci k a : Nat} {v : Value} {ty : FieldType} {F : hpT → Rs α} (d : decode cc pc = .ok (.putfield ix, 3)) (fl : FLK own ix ci k) (fn : FLN ci k ty) (hn : narrow ty v = v) (hfit : fits ty v = true) (h : pf hp a ci k v F = some res) (kk : ∀ hp1, F hp1 = some res → G D cA h0 p l e R s m args below meth c nL Q cells slots hp1 (pc + 3) lv st) : G D cA h0 p l e R s m args below meth c nL Q cells slots hp pc lv (v :: va_rf (some a) :: st) := by
  obtain ⟨fs, he, hl, h3⟩ := pf_inv h
  intro H locs ls a1 a2 a3
  obtain ⟨C, T, N, ty0, f1, hk, hin, hty, hnm, f6, f7⟩ := fl
  obtain ⟨hfin, hd⟩ := fn C T N f1
  obtain ⟨hexec, hb, hml, hown, hts, hK0, -⟩ := K
  have hK := hK0.1
  have hP := a1.obj he
  have hap := va_apart (own := own) hts hin ty0 hty hnm hK f1
  obtain ⟨r, h1, cell, q1, q2, q3, q4⟩ := hP 0 _ rfl
  have hr : r = (C, T, N) := Option.some.inj (h1.symm.trans f1)
  subst hr
  obtain ⟨hS, hfc, kC, hkC, hkind⟩ := hK.1 ci _ f1
  obtain ⟨cf, kf, fi, f, hi, hsl⟩ := hS k hk
  have hlay := hts _ (hin _ (u_in_lay hk))
  unfold u_lay at hlay
  rw [if_neg (by rw [hfin]; decide)] at hlay
  have hst := (u_facts hfc hkC (u_lays hts hin hk) hi).1
  have h6 := u_store hfc hkC hkind hlay hi hd hn hfit
  have fin : ∀ H1 : Heap, H1[a]? = some (cell.setSlot f.slot v) → H1.size = H.size → (∀ q, q ≠ a → H1[q]? = H[q]?) → W p l e R s m args below meth c H1 (locs ++ [⟨a, f.slot⟩]) cells slots Q (F0 m (pc + 3) ls st) := by
    intro H1 e1 e2 e3
    rw [hsl] at e1 ⊢
    refine kk _ h3 H1 _ ls (a1.set he e2 ⟨_, f1, t_OB.to (V := updV (vp_V fs) k v) ⟨_, e1, q2, q3, t_set q4 hap hk v⟩ (fun j _ => vp_updV_set hl v j)⟩ e3) (a2.put e2 e3 (a1.2.2 a _ he).1) a3
  rcases f7 with h | ⟨host, h⟩
  · exact W.putK hexec hb (f := f) ⟨hown, hts _ h, ⟨_, _, _, fl_same f6 _ hi⟩, hst⟩ (by rw [q2]; exact h6) q1 q3 (by rw [hsl]; exact k2_hasslot (q4 k hk)) rfl rfl d fin
  · exact va_WputK hexec hb (f := f) hown (va_Nw.use rfl (hK0.2.1 _ h)) (fl_same f6 _ hi) hst (by rw [q2]; exact h6) q1 q3 (by rw [hsl]; exact k2_hasslot (q4 k hk)) rfl rfl d fin
/-- a final field, in the class's constructor -/
theorem r_putF (K : Cx strs D cA h0 p l s m args meth c cc own nL) (hname : meth.name = "<init>") {ix ci k a : Nat} {v : Value} {ty : FieldType} {F : hpT → Rs α} (d : decode cc pc = .ok (.putfield ix, 3)) (fl : FLK own ix ci k) (fn : FLF own ci k ty) (hn : narrow ty v = v) (hfit : fits ty v = true) (h : pf hp a ci k v F = some res) (kk : ∀ hp1, F hp1 = some res → G D cA h0 p l e R s m args below meth c nL Q cells slots hp1 (pc + 3) lv st) : G D cA h0 p l e R s m args below meth c nL Q cells slots hp pc lv (v :: va_rf (some a) :: st) := by
  obtain ⟨fs, he, hl, h3⟩ := pf_inv h
  intro H locs ls a1 a2 a3
  obtain ⟨C, T, N, ty0, f1, hk, hin, hty, hnm, f6, f7⟩ := fl
  obtain ⟨hfin, hd, hdecl⟩ := fn C T N f1
  obtain ⟨hexec, hb, hml, hown, hts, hK0, -⟩ := K
  have hK := hK0.1
  have hP := a1.obj he
  have hap := va_apart (own := own) hts hin ty0 hty hnm hK f1
  obtain ⟨r, h1, cell, q1, q2, q3, q4⟩ := hP 0 _ rfl
  have hr : r = (C, T, N) := Option.some.inj (h1.symm.trans f1)
  subst hr
  obtain ⟨hS, hfc, kC, hkC, hkind⟩ := hK.1 ci _ f1
  obtain ⟨cf, kf, fi, f, hi, hsl⟩ := hS k hk
  have hlay := hts _ (hin _ (u_in_lay hk))
  unfold u_lay at hlay
  rw [if_pos hfin] at hlay
  have hst := (u_facts hfc hkC (u_lays hts hin hk) hi).1
  have hcf : m.cls = cf := by
    obtain ⟨_, _, c', _, _, _, -, -, hf', -, -, -, hown2, -⟩ := Cond.laysFinal_spec hlay
    have e1 : c' = cf := by have := hi.symm.trans hf'; simp at this; exact this.1.symm
    rw [hdecl] at hown2
    rw [← e1]; exact Option.some.inj (hown.symm.trans hown2)
  have h6 := u_fits hfc hkC hkind (Or.inr hlay) hi hd hn hfit
  have fin : ∀ H1 : Heap, H1[a]? = some (cell.setSlot f.slot v) → H1.size = H.size → (∀ q, q ≠ a → H1[q]? = H[q]?) → W p l e R s m args below meth c H1 (locs ++ [⟨a, f.slot⟩]) cells slots Q (F0 m (pc + 3) ls st) := by
    intro H1 e1 e2 e3
    rw [hsl] at e1 ⊢
    refine kk _ h3 H1 _ ls (a1.set he e2 ⟨_, f1, t_OB.to (V := updV (vp_V fs) k v) ⟨_, e1, q2, q3, t_set q4 hap hk v⟩ (fun j _ => vp_updV_set hl v j)⟩ e3) (a2.put e2 e3 (a1.2.2 a _ he).1) a3
  rcases f7 with h | ⟨host, h⟩
  · exact W.putFinK hexec hb hown (hts _ h) (fl_same f6 _ hi) hst hcf hname (by rw [q2]; exact h6) q1 q3 (by rw [hsl]; exact k2_hasslot (q4 k hk)) rfl rfl d fin
  · refine va_Wputf hexec hb hown (va_Nw.use rfl (hK0.2.1 _ h)) (fl_same f6 _ hi) hst (Or.inr ⟨hcf, hname⟩) q1 (by rw [q3]; exact fun h => by cases h) (by rw [hsl]; exact k2_hasslot (q4 k hk)) h6.1 (by rw [q3, q2]; exact h6.2) rfl rfl d ?_
    have ha : a < H.size := (Array.getElem?_eq_some_iff.mp q1).1
    refine fin _ ?_ ?_ ?_
    · simp [Array.getElem?_setIfInBounds, ha]
    · simp
    · intro q hq
      simp [Array.getElem?_setIfInBounds, Ne.symm hq]
theorem KT_at (cA : Nat → ClassId) {k : Nat} {ty : FieldType} (h : akT[k]? = some ty) : (KT cA)[k]? = some (cA k, ty) := by
  match k, h with
  | 0, h => cases h; rfl
  | 1, h => cases h; rfl
  | 2, h => cases h; rfl
  | 3, h => cases h; rfl
  | 4, h => cases h; rfl
  | 5, h => cases h; rfl
  | 6, h => cases h; rfl
  | k + 7, h => simp [akT] at h
theorem r_iald (K : Cx strs D cA h0 p l s m args meth c cc own nL) {a : Nat} {i : Int32} {F : Int32 → Rs α} (d : decode cc pc = .ok (.iaload, 1)) (h : ald hp a i F = some res) (kk : ∀ x, F x = some res → G D cA h0 p l e R s m args below meth c nL Q cells slots hp (pc + 1) lv (.int x :: st)) : G D cA h0 p l e R s m args below meth c nL Q cells slots hp pc lv (.int i :: va_rf (some a) :: st) := by
  obtain ⟨n, f, h1, h2, h3⟩ := ald_inv h
  exact fun H locs ls a1 a2 a3 => va_iald K.1 K.2.1 K.2.2.2.2.2.1.1 (a1.arr h1) 0 0 rfl rfl (inb_in h2) d (kk _ h3 H locs ls a1 a2 a3)
theorem r_aald (K : Cx strs D cA h0 p l s m args meth c cc own nL) {k0 a : Nat} {i : Int32} {C : String} {F : Option Nat → Rs α} (d : decode cc pc = .ok (.aaload, 1)) (hk : akT[k0]? = some (.object C)) (h : aldR hp k0 a i F = some res) (kk : ∀ x, F x = some res → G D cA h0 p l e R s m args below meth c nL Q cells slots hp (pc + 1) lv (va_rf x :: st)) : G D cA h0 p l e R s m args below meth c nL Q cells slots hp pc lv (.int i :: va_rf (some a) :: st) := by
  obtain ⟨n, f, h1, h2, h3⟩ := aldR_inv h
  exact fun H locs ls a1 a2 a3 => va_aldq K.1 K.2.1 K.2.2.2.2.2.1.1 (a1.arr h1) 0 k0 rfl (KT_at cA hk) (inb_in h2) d (kk _ h3 H locs ls a1 a2 a3)
theorem r_alen (K : Cx strs D cA h0 p l s m args meth c cc own nL) {a : Nat} {F : Int32 → Rs α} (d : decode cc pc = .ok (.arraylength, 1)) (h : alen hp a F = some res) (kk : ∀ x, F x = some res → G D cA h0 p l e R s m args below meth c nL Q cells slots hp (pc + 1) lv (.int x :: st)) : G D cA h0 p l e R s m args below meth c nL Q cells slots hp pc lv (va_rf (some a) :: st) := by
  obtain ⟨k, n, x, h1, h2, h3⟩ := alen_inv h
  obtain ⟨ty, hty⟩ : ∃ ty, akT[k]? = some ty := ⟨akT[k]'(by simpa [akT] using h2), List.getElem?_eq_getElem _⟩
  exact fun H locs ls a1 a2 a3 => va_alen K.1 K.2.1 K.2.2.2.2.2.1.1 (a1.arr h1) 0 k rfl (KT_at cA hty) rfl d (kk _ h3 H locs ls a1 a2 a3)
theorem r_iast (K : Cx strs D cA h0 p l s m args meth c cc own nL) {a : Nat} {i x : Int32} {F : hpT → Rs α} (d : decode cc pc = .ok (.iastore, 1)) (h : ast hp a i x F = some res) (kk : ∀ hp1, F hp1 = some res → G D cA h0 p l e R s m args below meth c nL Q cells slots hp1 (pc + 1) lv st) : G D cA h0 p l e R s m args below meth c nL Q cells slots hp pc lv (.int x :: .int i :: va_rf (some a) :: st) := by
  obtain ⟨n, f, h1, h2, h3⟩ := ast_inv h
  intro H locs ls a1 a2 a3
  obtain ⟨hexec, hb, hml, hown, hts, hK0, -⟩ := K
  refine W.iast hexec hb (a1.arr h1 0 _ rfl) ((hK0.1.2 0 _ (KT_at cA rfl)).1 n (fun j => .int (f j))) (fun q => by cases q) (by show ¬ (i < 0 ∨ (arrV _ _ _).slots.size ≤ _); rw [arrV_size]; exact inb_in h2) rfl rfl d fun H1 e z oq => ?_
  refine kk _ h3 H1 _ ls (a1.set h1 z ?_ oq) (a2.put z oq (a1.2.2 a _ h1).1) a3
  show H1[a]? = some (vp_cell _ _)
  rw [e]
  rw [vp_cell_i, vp_cell_i, arrV_store]
  congr 2
  funext q
  by_cases hq : q = i.toNatClampNeg
  · subst hq
    simp [updV, upd]
  · simp [updV, upd, hq]
theorem r_aast (K : Cx strs D cA h0 p l s m args meth c cc own nL) {k0 ci a v : Nat} {i : Int32} {q0 : vw_C} {F : hpT → Rs α} (d : decode cc pc = .ok (.aastore, 1)) (hk : akT[k0]? = some (.object q0.1)) (hc : vwCl[ci]? = some q0) (h : astR hp k0 ci a i v F = some res) (kk : ∀ hp1, F hp1 = some res → G D cA h0 p l e R s m args below meth c nL Q cells slots hp1 (pc + 1) lv st) : G D cA h0 p l e R s m args below meth c nL Q cells slots hp pc lv (va_rf (some v) :: .int i :: va_rf (some a) :: st) := by
  obtain ⟨n, f, fs, h1, h2, hv, h3⟩ := astR_inv h
  intro H locs ls a1 a2 a3
  obtain ⟨hexec, hb, hml, hown, hts, hK0, -⟩ := K
  have hK := hK0.1
  have hin := inb_in h2
  have hlt : i.toNatClampNeg < n := Nat.not_le.mp fun q => hin (Or.inr q)
  have h0' : ¬ i < 0 := fun q => hin (Or.inl q)
  obtain ⟨r', hr', cellV, g1, g2, g3, -⟩ := a1.obj hv 0 _ rfl
  have hcls := (hK.1 ci q0 hc).2
  obtain ⟨kA, comp, k1, k2, k3, -⟩ := (hK.2 k0 _ (KT_at cA hk)).2
  have hcomp : comp = D.1 ci := Option.some.inj (k3.symm.trans hcls.1)
  subst hcomp
  obtain ⟨kC, hkC, -⟩ := hcls.2
  refine W.aast hexec hb (a1.arr h1 0 _ rfl) (fun q h => by cases h) (fun h => by cases h) k1 k2 rfl hkC ⟨h0', by show _ < (arrV _ _ _).slots.size; rw [arrV_size]; exact hlt⟩ g1 (fun q h => by rw [g3] at h; cases h) (by rw [g2]; exact hkC) (by rw [g2]; exact va_assign hcls) rfl rfl d fun H1 e z oq => ?_
  refine kk _ h3 H1 _ ls (a1.set h1 z ?_ oq) (a2.put z oq (a1.2.2 a _ h1).1) a3
  show H1[a]? = some (vp_cell _ _)
  rw [e]
  rw [vp_cell_q, vp_cell_q, arrV_store]
  congr 2
  funext q
  by_cases hq : q = i.toNatClampNeg
  · subst hq
    simp [updV, va_up, va_rf]
  · simp [updV, va_up, hq]
theorem r_newI (K : Cx strs D cA h0 p l s m args meth c cc own nL) {n : Int32} {N : Nat} {F : Nat → hpT → Rs α} (d : decode cc pc = .ok (.newarray .int, 2)) (hw : Cond.arrayClass .int ∈ gdL) (hn : ¬ n < 0) (hN : n.toNatClampNeg = N) (hbytes : N * 4 ≤ 536870912) (hcells : cells + 1 ≤ R.cells) (hslots : slots + N ≤ R.slots) (h : newI hp N F = some res) (kk : ∀ q hp1, F q hp1 = some res → G D cA h0 p l e R s m args below meth c nL Q (cells + 1) (slots + N) hp1 (pc + 2) lv (va_rf (some q) :: st)) : G D cA h0 p l e R s m args below meth c nL Q cells slots hp pc lv (.int n :: st) := by
  intro H locs ls a1 a2 a3
  obtain ⟨hexec, hb, hml, hown, hts, hK0, -⟩ := K
  refine va_newaK (atype := .int) hexec hb (hts _ hw) (g := F0 m pc ls (.int n :: st)) rfl d rfl hn hN hbytes hcells hslots rfl fun H1 cA1 e1 z1 o1 hAr hNm => ?_
  have hc1 : cA1 = cA 0 := Option.some.inj (hNm.symm.trans (hK0.1.2 0 _ (KT_at cA rfl)).2)
  subst hc1
  have := kk _ _ h H1 locs ls (a1.push z1 e1 o1) ⟨Nat.le_trans a2.1 (by omega), fun x q1 q2 => (o1 x (Nat.lt_of_lt_of_le q1 a2.1)).trans (a2.2.1 x q1 q2), a2.2.2⟩ a3
  rw [← a1.1] at this
  exact this
theorem r_newR (K : Cx strs D cA h0 p l s m args meth c cc own nL) {ix k0 : Nat} {C : String} {n : Int32} {N : Nat} {F : Nat → hpT → Rs α} (d : decode cc pc = .ok (.anewarray ix, 3)) (hk : akT[k0]? = some (.object C)) (hC : C ∈ aoL) (hw : Cond.classLink own ix C ∈ gdL) (hn : ¬ n < 0) (hN : n.toNatClampNeg = N) (hbytes : N * 4 ≤ 536870912) (hcells : cells + 1 ≤ R.cells) (hslots : slots + N ≤ R.slots) (h : newR hp k0 N F = some res) (kk : ∀ q hp1, F q hp1 = some res → G D cA h0 p l e R s m args below meth c nL Q (cells + 1) (slots + N) hp1 (pc + 3) lv (va_rf (some q) :: st)) : G D cA h0 p l e R s m args below meth c nL Q cells slots hp pc lv (.int n :: st) := by
  intro H locs ls a1 a2 a3
  obtain ⟨hexec, hb, hml, hown, hts, hK0, -⟩ := K
  subst hN
  refine W.anew hexec hb hown (hts _ hw) (va_AO.use (hK0.2.2.1 C hC)) rfl d rfl hn hbytes hcells hslots fun cA1 kA comp f1 f2 f3 f4 => ?_
  obtain ⟨kA', comp', g1, g2, g3, g4⟩ := (hK0.1.2 k0 _ (KT_at cA hk)).2
  have hc1 : cA1 = cA k0 := Option.some.inj (f1.symm.trans g4)
  subst hc1
  generalize hH1 : H.push ({ cls := cA k0, slots := Array.replicate n.toNatClampNeg .null, vm := .none } : Cell) = H1
  have z1 : H1.size = H.size + 1 := by rw [← hH1, Array.size_push]
  have e1 : H1[H.size]? = some (arrV (cA k0) n.toNatClampNeg (fun _ => .null)) := by rw [← hH1, Array.getElem?_push_size, ← arrV_new]
  have o1 : ∀ q : Nat, q < H.size → H1[q]? = H[q]? := fun q hq => by rw [← hH1, Array.getElem?_push, if_neg (Nat.ne_of_lt hq)]
  have := kk _ _ h H1 locs ls (a1.push z1 e1 o1) ⟨Nat.le_trans a2.1 (by omega), fun x q1 q2 => (o1 x (Nat.lt_of_lt_of_le q1 a2.1)).trans (a2.2.1 x q1 q2), a2.2.2⟩ a3
  rw [← a1.1] at this
  exact this
/-- the class of kind ci: its words, and the fields of a new object of it -/
def NWO (ci : Nat) (C : String) (N : Nat) (fs : List Value) : Prop := ∃ (T : u_T) (ty : Nat → FieldType), vwCl[ci]? = some (C, T, N) ∧ (∀ w ∈ u_ws C T N, w ∈ gdL) ∧ (∀ k, k < N → parseFieldDescriptor (T k).2.2.1 = some (ty k)) ∧ (∀ j, j < N → defaultValue (ty j) = vp_V fs j) ∧ Cond.instantiable C N ∈ gdL ∧ Cond.initialized C ∈ gdL
theorem r_new (K : Cx strs D cA h0 p l s m args meth c cc own nL) {ix ci N : Nat} {C : String} {fs : List Value} {F : Nat → hpT → Rs α} (d : decode cc pc = .ok (.new ix, 3)) (hw : Cond.classLink own ix C ∈ gdL) (hO : NWO ci C N fs) (hcells : cells + 1 ≤ R.cells) (hslots : slots + N ≤ R.slots) (h : newO hp ci fs F = some res) (kk : ∀ q hp1, F q hp1 = some res → G D cA h0 p l e R s m args below meth c nL Q (cells + 1) (slots + N) hp1 (pc + 3) lv (va_rf (some q) :: st)) : G D cA h0 p l e R s m args below meth c nL Q cells slots hp pc lv st := by
  intro H locs ls a1 a2 a3
  obtain ⟨hexec, hb, hml, hown, hts, hK0, -⟩ := K
  obtain ⟨T, ty, hc, hin, hty, hfs, hi1, hi2⟩ := hO
  have hKn := hK0.1.1 ci _ hc
  refine W.newcK hexec hb hown (hts _ hw) (hts _ hi1) (hts _ hi2) rfl d hcells hslots hKn.2.1 rfl fun H1 kC hkC e1 z1 o1 => ?_
  have := kk _ _ h H1 locs ls (a1.push z1 ⟨_, hc, (u_born ty hts hin hKn hkC e1 hty).to hfs⟩ o1) ⟨Nat.le_trans a2.1 (by omega), fun x q1 q2 => (o1 x (Nat.lt_of_lt_of_le q1 a2.1)).trans (a2.2.1 x q1 q2), a2.2.2⟩ a3
  rw [← a1.1] at this
  exact this
end GH
