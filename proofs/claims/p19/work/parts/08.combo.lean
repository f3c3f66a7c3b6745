/-! calls in one row, switches -/
section GD
variable {strs : List (String × Nat × String)} {D : va_G} {cA : Nat → ClassId} {h0 : Nat} {p : Program} {l : Launch} {e : Env} {R : Room} {s : State} {m : MethodId} {args : Array Value} {below : List Frame} {meth : Method} {c : Code} {nL cells slots : Nat} {Q : State → Prop} {hp : hpT} {pc : Nat} {lv : List (Option Value)} {st : List Value} {cc : ByteArray} {own : String} {mc ms : Nat}
theorem r_tswIn (K : Cx strs D cA h0 p l s m args meth c cc own nL) {dflt lo hi : Int} {offs : Array Int} {len : Nat} {x v : Int32} {off : Int} {tgt : Nat} (hx : x = v) (d : decode cc pc = .ok (.tableswitch dflt lo hi offs, len)) (h1 : ¬ v.toInt < lo) (h2 : ¬ hi < v.toInt) (ho : offs[(v.toInt - lo).toNat]? = some off) (ht : (pc : Int) + off = (tgt : Int)) (k : G D cA h0 p l e R s m args below meth c nL Q cells slots hp tgt lv st) : G D cA h0 p l e R s m args below meth c nL Q cells slots hp pc lv (.int x :: st) := by
  subst hx
  exact r_ofW K (g2 := (_, _)) (fun _ _ _ _ w => lv_tableIn K.1 K.2.1 d h1 h2 ho ht w) k
theorem r_tswOut (K : Cx strs D cA h0 p l s m args meth c cc own nL) {dflt lo hi : Int} {offs : Array Int} {len : Nat} {x : Int32} {tgt : Nat} (d : decode cc pc = .ok (.tableswitch dflt lo hi offs, len)) (h : x.toInt < lo ∨ hi < x.toInt) (ht : (pc : Int) + dflt = (tgt : Int)) (k : G D cA h0 p l e R s m args below meth c nL Q cells slots hp tgt lv st) : G D cA h0 p l e R s m args below meth c nL Q cells slots hp pc lv (.int x :: st) := r_ofW K (g2 := (_, _)) (fun _ _ _ _ w => lv_tableOut K.1 K.2.1 d h ht w) k
theorem tsw_if {α : Type} {P : Prop} [Decidable P] {A B : Rs α} {res : (α ⊕ String) × hpT} (h : (if P then A else B) = some res) : (P ∧ A = some res) ∨ (¬ P ∧ B = some res) := by
  by_cases q : P
  · rw [if_pos q] at h; exact Or.inl ⟨q, h⟩
  · rw [if_neg q] at h; exact Or.inr ⟨q, h⟩
theorem nn_k {α : Type} {r : Option Nat} {K : Nat → Rs α} {z : (α ⊕ String) × hpT} {P : Prop} (h : nn r K = some z) (kk : ∀ a, r = some a → K a = some z → P) : P := by
  obtain ⟨a, h1, h2⟩ := nn_inv h
  exact kk a h1 h2
theorem cat_c {v : Value} {l : List Value} (h : v.category = 1) (t : ∀ w ∈ l, w.category = 1) : ∀ w ∈ v :: l, w.category = 1 := fun w hw => (List.mem_cons.mp hw).elim (fun e => by rw [e]; exact h) (t w)
theorem cat_n : ∀ w ∈ ([] : List Value), w.category = 1 := fun _ h => nomatch h
theorem mcat_le : ∀ {st : List Value}, (∀ v ∈ st, v.category = 1) → st.length ≤ 8 → mcat st ≤ 8 := by
  have key : ∀ (st : List Value), (∀ v ∈ st, v.category = 1) → mcat st = st.length := by
    intro st
    induction st with
    | nil => intro _; rfl
    | cons v st ih =>
      intro h
      have h1 := ih (fun w hw => h w (List.mem_cons_of_mem _ hw))
      have h2 := h v List.mem_cons_self
      unfold mcat at h1 ⊢
      rw [List.map_cons, List.sum_cons, h1, h2, List.length_cons, Nat.add_comm]
  intro st h hl
  rw [key st h]
  exact hl
variable {y : MethodName} {cy : ByteArray} {ny n idx : Nat} {rt : Option FieldType} {rm : Room} {As : List Value}
variable {β : Type} {res : (β ⊕ String) × hpT} {Qe : Array Value → State → Outcome → State → Prop} {st0 : List Value} {mc' ms' : Nat}
theorem s_int (K : Cx strs D cA h0 p l s m args meth c cc own nL) (hX : ∀ x ∈ c.exceptionTable.toList, False) {X : Rs Int32} {F : Int32 → hpT → Rs β} (hM : ∀ r1, X = some r1 → vx_Met l y (wsm y cy ny rt) rm (va_Pc As (Pre strs D cA h0 hp)) (QI D cA h0 r1) (XE D cA h0 r1) mc' ms' (Af h0)) (h : bnd X F = some res) (d : decode cc pc = .ok (.invokestatic idx, 3)) (hE : CEE y cy ny rt n) (hT : CST y) (hL : LNK own idx y) (hn : As.length = n) (hst : st0 = As.reverse ++ st) (hR : rm.frames + 1 ≤ R.frames ∧ 8 + (ny + 11) + rm.locals ≤ R.locals) (hrc : rm.cells = mc') (hrs : rm.slots = ms') (hW : mcat st ≤ 8) (hRc : R.cells = mc) (hRs : R.slots = ms) (hc : cells + mc' ≤ mc) (hs : slots + ms' ≤ ms)
    (kk : ∀ v h1, F v h1 = some res → G D cA h0 p l e R s m args below meth c nL (vx_MQ below Qe (XE D cA h0 res) args s mc ms (Af h0)) (cells + mc') (slots + ms') h1 (pc + 3) lv (.int v :: st)) : G D cA h0 p l e R s m args below meth c nL (vx_MQ below Qe (XE D cA h0 res) args s mc ms (Af h0)) cells slots hp pc lv st0 := by
  obtain ⟨r1, e1, f1, f2⟩ := bnd_inv h
  exact c_int (F := F) K hX (run_S K (hM r1 e1) d hE hT hL hn hst hR hrc hrs hW ⟨by rw [hRc]; exact hc, by rw [hRs]; exact hs⟩) f2 hc hs (fun v hv => kk v r1.2 (f1 v hv))
theorem s_void (K : Cx strs D cA h0 p l s m args meth c cc own nL) (hX : ∀ x ∈ c.exceptionTable.toList, False) {X : Rs Unit} {F : Unit → hpT → Rs β} (hM : ∀ r1, X = some r1 → vx_Met l y (wsm y cy ny rt) rm (va_Pc As (Pre strs D cA h0 hp)) (QV D cA h0 r1) (XE D cA h0 r1) mc' ms' (Af h0)) (h : bnd X F = some res) (d : decode cc pc = .ok (.invokestatic idx, 3)) (hE : CEE y cy ny rt n) (hT : CST y) (hL : LNK own idx y) (hn : As.length = n) (hst : st0 = As.reverse ++ st) (hR : rm.frames + 1 ≤ R.frames ∧ 8 + (ny + 11) + rm.locals ≤ R.locals) (hrc : rm.cells = mc') (hrs : rm.slots = ms') (hW : mcat st ≤ 8) (hRc : R.cells = mc) (hRs : R.slots = ms) (hc : cells + mc' ≤ mc) (hs : slots + ms' ≤ ms)
    (kk : ∀ v h1, F v h1 = some res → G D cA h0 p l e R s m args below meth c nL (vx_MQ below Qe (XE D cA h0 res) args s mc ms (Af h0)) (cells + mc') (slots + ms') h1 (pc + 3) lv st) : G D cA h0 p l e R s m args below meth c nL (vx_MQ below Qe (XE D cA h0 res) args s mc ms (Af h0)) cells slots hp pc lv st0 := by
  obtain ⟨r1, e1, f1, f2⟩ := bnd_inv h
  exact c_void K hX (run_S K (hM r1 e1) d hE hT hL hn hst hR hrc hrs hW ⟨by rw [hRc]; exact hc, by rw [hRs]; exact hs⟩) f2 hc hs (fun v hv => kk v r1.2 (f1 v hv))
theorem s_ref (K : Cx strs D cA h0 p l s m args meth c cc own nL) (hX : ∀ x ∈ c.exceptionTable.toList, False) {X : Rs Nat} {F : Nat → hpT → Rs β} (hM : ∀ r1, X = some r1 → vx_Met l y (wsm y cy ny rt) rm (va_Pc As (Pre strs D cA h0 hp)) (QR D cA h0 r1) (XE D cA h0 r1) mc' ms' (Af h0)) (h : bnd X F = some res) (d : decode cc pc = .ok (.invokestatic idx, 3)) (hE : CEE y cy ny rt n) (hT : CST y) (hL : LNK own idx y) (hn : As.length = n) (hst : st0 = As.reverse ++ st) (hR : rm.frames + 1 ≤ R.frames ∧ 8 + (ny + 11) + rm.locals ≤ R.locals) (hrc : rm.cells = mc') (hrs : rm.slots = ms') (hW : mcat st ≤ 8) (hRc : R.cells = mc) (hRs : R.slots = ms) (hc : cells + mc' ≤ mc) (hs : slots + ms' ≤ ms)
    (kk : ∀ v h1, F v h1 = some res → G D cA h0 p l e R s m args below meth c nL (vx_MQ below Qe (XE D cA h0 res) args s mc ms (Af h0)) (cells + mc') (slots + ms') h1 (pc + 3) lv (va_rf (some v) :: st)) : G D cA h0 p l e R s m args below meth c nL (vx_MQ below Qe (XE D cA h0 res) args s mc ms (Af h0)) cells slots hp pc lv st0 := by
  obtain ⟨r1, e1, f1, f2⟩ := bnd_inv h
  exact c_ref K hX (run_S K (hM r1 e1) d hE hT hL hn hst hR hrc hrs hW ⟨by rw [hRc]; exact hc, by rw [hRs]; exact hs⟩) f2 hc hs (fun v hv => kk v r1.2 (f1 v hv))
theorem v_int (K : Cx strs D cA h0 p l s m args meth c cc own nL) (hX : ∀ x ∈ c.exceptionTable.toList, False) {b ci : Nat} {q0 : vw_C} {X : Rs Int32} {F : Int32 → hpT → Rs β} (hM : ∀ r1, X = some r1 → vx_Met l y (wsm y cy ny rt) rm (va_Pc (va_rf (some b) :: As) (Pre strs D cA h0 hp)) (QI D cA h0 r1) (XE D cA h0 r1) mc' ms' (Af h0)) (h : isO hp b ci (bnd X F) = some res) (d : decode cc pc = .ok (.invokevirtual idx, 3)) (hE : CEE y cy ny rt n) (hT : CVI y) (hL : LNK own idx y) (hci : vwCl[ci]? = some q0) (hcy : q0.1 = y.cls) (hn : As.length = n) (hst : st0 = As.reverse ++ va_rf (some b) :: st) (hR : rm.frames + 1 ≤ R.frames ∧ 8 + (ny + 11) + rm.locals ≤ R.locals) (hrc : rm.cells = mc') (hrs : rm.slots = ms') (hW : mcat st ≤ 8) (hRc : R.cells = mc) (hRs : R.slots = ms) (hc : cells + mc' ≤ mc) (hs : slots + ms' ≤ ms)
    (kk : ∀ v h1, F v h1 = some res → G D cA h0 p l e R s m args below meth c nL (vx_MQ below Qe (XE D cA h0 res) args s mc ms (Af h0)) (cells + mc') (slots + ms') h1 (pc + 3) lv (.int v :: st)) : G D cA h0 p l e R s m args below meth c nL (vx_MQ below Qe (XE D cA h0 res) args s mc ms (Af h0)) cells slots hp pc lv st0 := by
  obtain ⟨fs, hb9, h⟩ := isO_inv h
  obtain ⟨r1, e1, f1, f2⟩ := bnd_inv h
  exact c_int (F := F) K hX (run_V K (hM r1 e1) d hE hT hL hci hcy hb9 hn hst hR hrc hrs hW ⟨by rw [hRc]; exact hc, by rw [hRs]; exact hs⟩) f2 hc hs (fun v hv => kk v r1.2 (f1 v hv))
theorem v_void (K : Cx strs D cA h0 p l s m args meth c cc own nL) (hX : ∀ x ∈ c.exceptionTable.toList, False) {b ci : Nat} {q0 : vw_C} {X : Rs Unit} {F : Unit → hpT → Rs β} (hM : ∀ r1, X = some r1 → vx_Met l y (wsm y cy ny rt) rm (va_Pc (va_rf (some b) :: As) (Pre strs D cA h0 hp)) (QV D cA h0 r1) (XE D cA h0 r1) mc' ms' (Af h0)) (h : isO hp b ci (bnd X F) = some res) (d : decode cc pc = .ok (.invokevirtual idx, 3)) (hE : CEE y cy ny rt n) (hT : CVI y) (hL : LNK own idx y) (hci : vwCl[ci]? = some q0) (hcy : q0.1 = y.cls) (hn : As.length = n) (hst : st0 = As.reverse ++ va_rf (some b) :: st) (hR : rm.frames + 1 ≤ R.frames ∧ 8 + (ny + 11) + rm.locals ≤ R.locals) (hrc : rm.cells = mc') (hrs : rm.slots = ms') (hW : mcat st ≤ 8) (hRc : R.cells = mc) (hRs : R.slots = ms) (hc : cells + mc' ≤ mc) (hs : slots + ms' ≤ ms)
    (kk : ∀ v h1, F v h1 = some res → G D cA h0 p l e R s m args below meth c nL (vx_MQ below Qe (XE D cA h0 res) args s mc ms (Af h0)) (cells + mc') (slots + ms') h1 (pc + 3) lv st) : G D cA h0 p l e R s m args below meth c nL (vx_MQ below Qe (XE D cA h0 res) args s mc ms (Af h0)) cells slots hp pc lv st0 := by
  obtain ⟨fs, hb9, h⟩ := isO_inv h
  obtain ⟨r1, e1, f1, f2⟩ := bnd_inv h
  exact c_void K hX (run_V K (hM r1 e1) d hE hT hL hci hcy hb9 hn hst hR hrc hrs hW ⟨by rw [hRc]; exact hc, by rw [hRs]; exact hs⟩) f2 hc hs (fun v hv => kk v r1.2 (f1 v hv))
theorem v_ref (K : Cx strs D cA h0 p l s m args meth c cc own nL) (hX : ∀ x ∈ c.exceptionTable.toList, False) {b ci : Nat} {q0 : vw_C} {X : Rs Nat} {F : Nat → hpT → Rs β} (hM : ∀ r1, X = some r1 → vx_Met l y (wsm y cy ny rt) rm (va_Pc (va_rf (some b) :: As) (Pre strs D cA h0 hp)) (QR D cA h0 r1) (XE D cA h0 r1) mc' ms' (Af h0)) (h : isO hp b ci (bnd X F) = some res) (d : decode cc pc = .ok (.invokevirtual idx, 3)) (hE : CEE y cy ny rt n) (hT : CVI y) (hL : LNK own idx y) (hci : vwCl[ci]? = some q0) (hcy : q0.1 = y.cls) (hn : As.length = n) (hst : st0 = As.reverse ++ va_rf (some b) :: st) (hR : rm.frames + 1 ≤ R.frames ∧ 8 + (ny + 11) + rm.locals ≤ R.locals) (hrc : rm.cells = mc') (hrs : rm.slots = ms') (hW : mcat st ≤ 8) (hRc : R.cells = mc) (hRs : R.slots = ms) (hc : cells + mc' ≤ mc) (hs : slots + ms' ≤ ms)
    (kk : ∀ v h1, F v h1 = some res → G D cA h0 p l e R s m args below meth c nL (vx_MQ below Qe (XE D cA h0 res) args s mc ms (Af h0)) (cells + mc') (slots + ms') h1 (pc + 3) lv (va_rf (some v) :: st)) : G D cA h0 p l e R s m args below meth c nL (vx_MQ below Qe (XE D cA h0 res) args s mc ms (Af h0)) cells slots hp pc lv st0 := by
  obtain ⟨fs, hb9, h⟩ := isO_inv h
  obtain ⟨r1, e1, f1, f2⟩ := bnd_inv h
  exact c_ref K hX (run_V K (hM r1 e1) d hE hT hL hci hcy hb9 hn hst hR hrc hrs hW ⟨by rw [hRc]; exact hc, by rw [hRs]; exact hs⟩) f2 hc hs (fun v hv => kk v r1.2 (f1 v hv))
theorem i_void (K : Cx strs D cA h0 p l s m args meth c cc own nL) (hX : ∀ x ∈ c.exceptionTable.toList, False) {b : Nat} {X : Rs Unit} {F : Unit → hpT → Rs β} (hM : ∀ r1, X = some r1 → vx_Met l y (wsm y cy ny none) rm (va_Pc (va_rf (some b) :: As) (Pre strs D cA h0 hp)) (QV D cA h0 r1) (XE D cA h0 r1) mc' ms' (Af h0)) (h : bnd X F = some res) (d : decode cc pc = .ok (.invokespecial idx, 3)) (hE : CEE y cy ny none n) (hT : CIN y) (hL : LNK own idx y) (hn : As.length = n) (hst : st0 = As.reverse ++ va_rf (some b) :: st) (hR : rm.frames + 1 ≤ R.frames ∧ 8 + (ny + 11) + rm.locals ≤ R.locals) (hrc : rm.cells = mc') (hrs : rm.slots = ms') (hW : mcat st ≤ 8) (hRc : R.cells = mc) (hRs : R.slots = ms) (hc : cells + mc' ≤ mc) (hs : slots + ms' ≤ ms)
    (kk : ∀ v h1, F v h1 = some res → G D cA h0 p l e R s m args below meth c nL (vx_MQ below Qe (XE D cA h0 res) args s mc ms (Af h0)) (cells + mc') (slots + ms') h1 (pc + 3) lv st) : G D cA h0 p l e R s m args below meth c nL (vx_MQ below Qe (XE D cA h0 res) args s mc ms (Af h0)) cells slots hp pc lv st0 := by
  obtain ⟨r1, e1, f1, f2⟩ := bnd_inv h
  exact c_void K hX (run_I K (hM r1 e1) d hE hT hL hn hst hR hrc hrs hW ⟨by rw [hRc]; exact hc, by rw [hRs]; exact hs⟩) f2 hc hs (fun v hv => kk v r1.2 (f1 v hv))
end GD
