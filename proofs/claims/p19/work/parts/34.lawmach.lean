/-! the machine does what the propositions say: L_law -/
section
variable {D : va_G} {cA : Nat → ClassId} {h0 : Nat} {p : Program} {l : Launch} {e : Env} {s : State} {m : MethodId} {args : Array Value} {below : List Frame} {meth : Method} {c : Code}
set_option maxRecDepth 100000 in
set_option maxHeartbeats 4000000 in
theorem B_L_law_b122 {R : Room} {mc ms : Nat} {k0 s0 : Nat} {Q : State → Prop} {Qp : Int32 → hpT → Prop} {b0 L : Nat} {xs : Nat → Int32} (K : Cx strL D cA h0 p l s m args meth c cL_law RL 23) (hR : R.cells = mc ∧ R.slots = ms ∧ 11 ≤ R.frames ∧ 221 ≤ R.locals) (hret : ∀ (pc : Nat) (v : Int32) (hp : hpT) (cells slots : Nat) (lv : List (Nat × Value)), decode cL_law pc = .ok (.ireturn, 1) → rtZP Qp v hp → cells ≤ mc → slots ≤ ms → GL D cA h0 p l e R s m args below meth c 23 Q cells slots hp pc lv [.int v]) (hX : va_X b0 L xs s s.heap) (hbl : b0 < s.heap.size) (hbA : ¬ Af h0 b0) {K18 : Nat → Int32 → Nat → Int32 → hpT → (Int32 → hpT → Prop) → Prop} (hK18 : ∀ (a1 : Nat) (x2 : Int32) (a3 : Nat) (x4 : Int32) (hp : hpT) (cells slots : Nat), K18 a1 x2 a3 x4 hp Qp → cells + k0 ≤ mc → slots + s0 ≤ ms → GL D cA h0 p l e R s m args below meth c 23 Q cells slots hp 18 [(0, .ref b0), (1, .ref a1), (2, .int x2), (3, .ref a3), (4, .int x4)] []) (hA18 : 81447 ≤ k0 ∧ 516326 ≤ s0) : ∀ (a1 : Nat) (a3 : Nat) (x4 : Int32) (xs0 : Int32) (hp : hpT) (cells slots : Nat), P_L_law_b122 L xs K18 a1 a3 x4 xs0 hp Qp → cells + (0 + k0) ≤ mc → slots + (0 + s0) ≤ ms → GL D cA h0 p l e R s m args below meth c 23 Q cells slots hp 122 [(0, .ref b0), (1, .ref a1), (3, .ref a3), (4, .int x4)] [.int xs0] := by
  intro a1 a3 x4 xs0 hp cells slots h hc hs
  unfold P_L_law_b122 at h
  refine l_istore_n (pc := 122) (lv2 := [(2, .int xs0), (0, .ref b0), (1, .ref a1), (3, .ref a3), (4, .int x4)]) K dL_law_122 (by decide) rfl ?_
  refine l_iinc (pc := 123) (v := (x4 + 1)) (lv2 := [(4, .int (x4 + 1)), (2, .int xs0), (0, .ref b0), (1, .ref a1), (3, .ref a3)]) K 4 dL_law_123 rfl rfl (by decide) rfl ?_
  refine l_goto (pc := 126) (tgt := 18) K dL_law_126 (by decide) ?_
  refine l_sub [2, 3, 1, 4, 0] rfl ?_
  exact hK18 _ _ _ _ _ _ _ h (by omega) (by omega)
set_option maxRecDepth 100000 in
set_option maxHeartbeats 4000000 in
theorem B_L_law_b89 {R : Room} {mc ms : Nat} {k0 s0 : Nat} {Q : State → Prop} {Qp : Int32 → hpT → Prop} {b0 L : Nat} {xs : Nat → Int32} (K : Cx strL D cA h0 p l s m args meth c cL_law RL 23) (hR : R.cells = mc ∧ R.slots = ms ∧ 11 ≤ R.frames ∧ 221 ≤ R.locals) (hret : ∀ (pc : Nat) (v : Int32) (hp : hpT) (cells slots : Nat) (lv : List (Nat × Value)), decode cL_law pc = .ok (.ireturn, 1) → rtZP Qp v hp → cells ≤ mc → slots ≤ ms → GL D cA h0 p l e R s m args below meth c 23 Q cells slots hp pc lv [.int v]) (hX : va_X b0 L xs s s.heap) (hbl : b0 < s.heap.size) (hbA : ¬ Af h0 b0) {K18 : Nat → Int32 → Nat → Int32 → hpT → (Int32 → hpT → Prop) → Prop} (hK18 : ∀ (a1 : Nat) (x2 : Int32) (a3 : Nat) (x4 : Int32) (hp : hpT) (cells slots : Nat), K18 a1 x2 a3 x4 hp Qp → cells + k0 ≤ mc → slots + s0 ≤ ms → GL D cA h0 p l e R s m args below meth c 23 Q cells slots hp 18 [(0, .ref b0), (1, .ref a1), (2, .int x2), (3, .ref a3), (4, .int x4)] []) (hA18 : 81447 ≤ k0 ∧ 516326 ≤ s0) : ∀ (a1 : Nat) (a3 : Nat) (x4 : Int32) (x6 : Int32) (xs0 : Int32) (xs1 : Int32) (as2 : Nat) (hp : hpT) (cells slots : Nat), P_L_law_b89 L xs K18 a1 a3 x4 x6 xs0 xs1 as2 hp Qp → cells + (6 + k0) ≤ mc → slots + (125 + s0) ≤ ms → GL D cA h0 p l e R s m args below meth c 23 Q cells slots hp 89 [(0, .ref b0), (1, .ref a1), (3, .ref a3), (4, .int x4), (6, .int x6)] [.int xs0, .int xs1, .ref as2] := by
  intro a1 a3 x4 x6 xs0 xs1 as2 hp cells slots h hc hs
  unfold P_L_law_b89 at h
  refine l_iast (pc := 89) K dL_law_89 h (fun h21 h => ?_)
  refine l_aload_n (pc := 90) K 1 dL_law_90 rfl ?_
  refine l_aload_n (pc := 91) K 2 dL_law_91 rfl ?_
  refine l_iconst (pc := 92) (v := 2) K dL_law_92 (by decide) ?_
  refine l_iload (pc := 93) K 3 dL_law_93 rfl ?_
  refine l_imul (pc := 95) K dL_law_95 ?_
  refine l_iald (pc := 96) K dL_law_96 h (fun v22 h => ?_)
  refine l_aload_n (pc := 97) K 2 dL_law_97 rfl ?_
  refine l_iconst (pc := 98) (v := 2) K dL_law_98 (by decide) ?_
  refine l_iload (pc := 99) K 3 dL_law_99 rfl ?_
  refine l_imul (pc := 101) K dL_law_101 ?_
  refine l_iconst (pc := 102) (v := 1) K dL_law_102 (by decide) ?_
  refine l_iadd (pc := 103) K dL_law_103 ?_
  refine l_iald (pc := 104) K dL_law_104 h (fun v23 h => ?_)
  refine l_iload (pc := 105) K 4 dL_law_105 rfl ?_
  refine lW_long (pc := 107) (st := []) (As := [.ref a1, .int v22, .int v23, .int x6]) K (M_L_pattern K.2.2.2.2.2.2.1 _ _ _ _ _ _ h) dL_law_107 cw_L_pattern cs_L_pattern lw_RL_107 rfl rfl ⟨Nat.le_trans (by decide) hR.2.2.1, Nat.le_trans (by decide) hR.2.2.2⟩ rfl rfl (Nat.le_of_ble_eq_true rfl) (by rw [hR.1]; omega) (by rw [hR.2.1]; omega) (fun v24 h24 h => ?_)
  refine l_iload (pc := 110) K 3 dL_law_110 rfl ?_
  refine l_i2l (pc := 112) K dL_law_112 ?_
  refine l_lc_ne (pc := 113) (tgt := 121) K dL_law_113 dL_law_114 (by decide) h (fun h => ?_) (fun h => ?_)
  · refine l_iconst (pc := 121) (v := 0) K dL_law_121 (by decide) ?_
    refine l_sub [0, 1, 2, 3] rfl ?_
    exact B_L_law_b122 (k0 := k0) (s0 := s0) K hR hret hX hbl hbA hK18 ⟨by omega, by omega⟩  _ _ _ _ _ _ _ h (by omega) (by omega)
  · refine l_iconst (pc := 117) (v := 1) K dL_law_117 (by decide) ?_
    refine l_goto (pc := 118) (tgt := 122) K dL_law_118 (by decide) ?_
    refine l_sub [0, 1, 2, 3] rfl ?_
    exact B_L_law_b122 (k0 := k0) (s0 := s0) K hR hret hX hbl hbA hK18 ⟨by omega, by omega⟩  _ _ _ _ _ _ _ h (by omega) (by omega)
set_option maxRecDepth 100000 in
set_option maxHeartbeats 4000000 in
theorem B_L_law_b187 {R : Room} {mc ms : Nat} {k0 s0 : Nat} {Q : State → Prop} {Qp : Int32 → hpT → Prop} {b0 L : Nat} {xs : Nat → Int32} (K : Cx strL D cA h0 p l s m args meth c cL_law RL 23) (hR : R.cells = mc ∧ R.slots = ms ∧ 11 ≤ R.frames ∧ 221 ≤ R.locals) (hret : ∀ (pc : Nat) (v : Int32) (hp : hpT) (cells slots : Nat) (lv : List (Nat × Value)), decode cL_law pc = .ok (.ireturn, 1) → rtZP Qp v hp → cells ≤ mc → slots ≤ ms → GL D cA h0 p l e R s m args below meth c 23 Q cells slots hp pc lv [.int v]) (hX : va_X b0 L xs s s.heap) (hbl : b0 < s.heap.size) (hbA : ¬ Af h0 b0) {K135 : Nat → Int32 → Nat → Int32 → Int32 → hpT → (Int32 → hpT → Prop) → Prop} (hK135 : ∀ (a1 : Nat) (x2 : Int32) (a3 : Nat) (x4 : Int32) (x5 : Int32) (hp : hpT) (cells slots : Nat), K135 a1 x2 a3 x4 x5 hp Qp → cells + k0 ≤ mc → slots + s0 ≤ ms → GL D cA h0 p l e R s m args below meth c 23 Q cells slots hp 135 [(0, .ref b0), (1, .ref a1), (2, .int x2), (3, .ref a3), (4, .int x4), (5, .int x5)] []) (hA135 : 81405 ≤ k0 ∧ 515465 ≤ s0) : ∀ (a1 : Nat) (a3 : Nat) (x4 : Int32) (x5 : Int32) (xs0 : Int32) (hp : hpT) (cells slots : Nat), P_L_law_b187 L xs K135 a1 a3 x4 x5 xs0 hp Qp → cells + (0 + k0) ≤ mc → slots + (0 + s0) ≤ ms → GL D cA h0 p l e R s m args below meth c 23 Q cells slots hp 187 [(0, .ref b0), (1, .ref a1), (3, .ref a3), (4, .int x4), (5, .int x5)] [.int xs0] := by
  intro a1 a3 x4 x5 xs0 hp cells slots h hc hs
  unfold P_L_law_b187 at h
  refine l_istore_n (pc := 187) (lv2 := [(2, .int xs0), (0, .ref b0), (1, .ref a1), (3, .ref a3), (4, .int x4), (5, .int x5)]) K dL_law_187 (by decide) rfl ?_
  refine l_iinc (pc := 188) (v := (x4 + 1)) (lv2 := [(4, .int (x4 + 1)), (2, .int xs0), (0, .ref b0), (1, .ref a1), (3, .ref a3), (5, .int x5)]) K 4 dL_law_188 rfl rfl (by decide) rfl ?_
  refine l_iinc (pc := 191) (v := (x5 + 1)) (lv2 := [(5, .int (x5 + 1)), (4, .int (x4 + 1)), (2, .int xs0), (0, .ref b0), (1, .ref a1), (3, .ref a3)]) K 5 dL_law_191 rfl rfl (by decide) rfl ?_
  refine l_goto (pc := 194) (tgt := 135) K dL_law_194 (by decide) ?_
  refine l_sub [3, 4, 2, 5, 1, 0] rfl ?_
  exact hK135 _ _ _ _ _ _ _ _ h (by omega) (by omega)
set_option maxRecDepth 100000 in
set_option maxHeartbeats 4000000 in
theorem B_L_law_b1212 {R : Room} {mc ms : Nat} {k0 s0 : Nat} {Q : State → Prop} {Qp : Int32 → hpT → Prop} {b0 L : Nat} {xs : Nat → Int32} (K : Cx strL D cA h0 p l s m args meth c cL_law RL 23) (hR : R.cells = mc ∧ R.slots = ms ∧ 11 ≤ R.frames ∧ 221 ≤ R.locals) (hret : ∀ (pc : Nat) (v : Int32) (hp : hpT) (cells slots : Nat) (lv : List (Nat × Value)), decode cL_law pc = .ok (.ireturn, 1) → rtZP Qp v hp → cells ≤ mc → slots ≤ ms → GL D cA h0 p l e R s m args below meth c 23 Q cells slots hp pc lv [.int v]) (hX : va_X b0 L xs s s.heap) (hbl : b0 < s.heap.size) (hbA : ¬ Af h0 b0) {K209 : Nat → Int32 → Nat → Int32 → Int32 → Nat → Int32 → hpT → (Int32 → hpT → Prop) → Prop} (hK209 : ∀ (a1 : Nat) (x2 : Int32) (a3 : Nat) (x4 : Int32) (x5 : Int32) (a6 : Nat) (x7 : Int32) (hp : hpT) (cells slots : Nat), K209 a1 x2 a3 x4 x5 a6 x7 hp Qp → cells + k0 ≤ mc → slots + s0 ≤ ms → GL D cA h0 p l e R s m args below meth c 23 Q cells slots hp 209 [(0, .ref b0), (1, .ref a1), (2, .int x2), (3, .ref a3), (4, .int x4), (5, .int x5), (6, .ref a6), (7, .int x7)] []) (hA209 : 0 ≤ k0 ∧ 0 ≤ s0) : ∀ (a1 : Nat) (x2 : Int32) (a3 : Nat) (x4 : Int32) (x5 : Int32) (a6 : Nat) (x7 : Int32) (hp : hpT) (cells slots : Nat), P_L_law_b1212 L xs K209 a1 x2 a3 x4 x5 a6 x7 hp Qp → cells + (0 + k0) ≤ mc → slots + (0 + s0) ≤ ms → GL D cA h0 p l e R s m args below meth c 23 Q cells slots hp 1212 [(0, .ref b0), (1, .ref a1), (2, .int x2), (3, .ref a3), (4, .int x4), (5, .int x5), (6, .ref a6), (7, .int x7)] [] := by
  intro a1 x2 a3 x4 x5 a6 x7 hp cells slots h hc hs
  unfold P_L_law_b1212 at h
  refine l_iinc (pc := 1212) (v := (x7 + 1)) (lv2 := [(7, .int (x7 + 1)), (0, .ref b0), (1, .ref a1), (2, .int x2), (3, .ref a3), (4, .int x4), (5, .int x5), (6, .ref a6)]) K 7 dL_law_1212 rfl rfl (by decide) rfl ?_
  refine l_goto (pc := 1215) (tgt := 209) K dL_law_1215 (by decide) ?_
  refine l_sub [1, 2, 3, 4, 5, 6, 7, 0] rfl ?_
  exact hK209 _ _ _ _ _ _ _ _ _ _ h (by omega) (by omega)
set_option maxRecDepth 100000 in
set_option maxHeartbeats 4000000 in
theorem B_L_law_b1211 {R : Room} {mc ms : Nat} {k0 s0 : Nat} {Q : State → Prop} {Qp : Int32 → hpT → Prop} {b0 L : Nat} {xs : Nat → Int32} (K : Cx strL D cA h0 p l s m args meth c cL_law RL 23) (hR : R.cells = mc ∧ R.slots = ms ∧ 11 ≤ R.frames ∧ 221 ≤ R.locals) (hret : ∀ (pc : Nat) (v : Int32) (hp : hpT) (cells slots : Nat) (lv : List (Nat × Value)), decode cL_law pc = .ok (.ireturn, 1) → rtZP Qp v hp → cells ≤ mc → slots ≤ ms → GL D cA h0 p l e R s m args below meth c 23 Q cells slots hp pc lv [.int v]) (hX : va_X b0 L xs s s.heap) (hbl : b0 < s.heap.size) (hbA : ¬ Af h0 b0) {K209 : Nat → Int32 → Nat → Int32 → Int32 → Nat → Int32 → hpT → (Int32 → hpT → Prop) → Prop} (hK209 : ∀ (a1 : Nat) (x2 : Int32) (a3 : Nat) (x4 : Int32) (x5 : Int32) (a6 : Nat) (x7 : Int32) (hp : hpT) (cells slots : Nat), K209 a1 x2 a3 x4 x5 a6 x7 hp Qp → cells + k0 ≤ mc → slots + s0 ≤ ms → GL D cA h0 p l e R s m args below meth c 23 Q cells slots hp 209 [(0, .ref b0), (1, .ref a1), (2, .int x2), (3, .ref a3), (4, .int x4), (5, .int x5), (6, .ref a6), (7, .int x7)] []) (hA209 : 0 ≤ k0 ∧ 0 ≤ s0) : ∀ (a1 : Nat) (a3 : Nat) (x4 : Int32) (x5 : Int32) (a6 : Nat) (x7 : Int32) (xs0 : Int32) (hp : hpT) (cells slots : Nat), P_L_law_b1211 L xs K209 a1 a3 x4 x5 a6 x7 xs0 hp Qp → cells + (0 + k0) ≤ mc → slots + (0 + s0) ≤ ms → GL D cA h0 p l e R s m args below meth c 23 Q cells slots hp 1211 [(0, .ref b0), (1, .ref a1), (3, .ref a3), (4, .int x4), (5, .int x5), (6, .ref a6), (7, .int x7)] [.int xs0] := by
  intro a1 a3 x4 x5 a6 x7 xs0 hp cells slots h hc hs
  unfold P_L_law_b1211 at h
  refine l_istore_n (pc := 1211) (lv2 := [(2, .int xs0), (0, .ref b0), (1, .ref a1), (3, .ref a3), (4, .int x4), (5, .int x5), (6, .ref a6), (7, .int x7)]) K dL_law_1211 (by decide) rfl ?_
  refine l_sub [1, 2, 0, 3, 4, 5, 6, 7] rfl ?_
  exact B_L_law_b1212 (k0 := k0) (s0 := s0) K hR hret hX hbl hbA hK209 ⟨by omega, by omega⟩  _ _ _ _ _ _ _ _ _ _ h (by omega) (by omega)
set_option maxRecDepth 100000 in
set_option maxHeartbeats 4000000 in
theorem B_L_law_b1210 {R : Room} {mc ms : Nat} {k0 s0 : Nat} {Q : State → Prop} {Qp : Int32 → hpT → Prop} {b0 L : Nat} {xs : Nat → Int32} (K : Cx strL D cA h0 p l s m args meth c cL_law RL 23) (hR : R.cells = mc ∧ R.slots = ms ∧ 11 ≤ R.frames ∧ 221 ≤ R.locals) (hret : ∀ (pc : Nat) (v : Int32) (hp : hpT) (cells slots : Nat) (lv : List (Nat × Value)), decode cL_law pc = .ok (.ireturn, 1) → rtZP Qp v hp → cells ≤ mc → slots ≤ ms → GL D cA h0 p l e R s m args below meth c 23 Q cells slots hp pc lv [.int v]) (hX : va_X b0 L xs s s.heap) (hbl : b0 < s.heap.size) (hbA : ¬ Af h0 b0) {K209 : Nat → Int32 → Nat → Int32 → Int32 → Nat → Int32 → hpT → (Int32 → hpT → Prop) → Prop} (hK209 : ∀ (a1 : Nat) (x2 : Int32) (a3 : Nat) (x4 : Int32) (x5 : Int32) (a6 : Nat) (x7 : Int32) (hp : hpT) (cells slots : Nat), K209 a1 x2 a3 x4 x5 a6 x7 hp Qp → cells + k0 ≤ mc → slots + s0 ≤ ms → GL D cA h0 p l e R s m args below meth c 23 Q cells slots hp 209 [(0, .ref b0), (1, .ref a1), (2, .int x2), (3, .ref a3), (4, .int x4), (5, .int x5), (6, .ref a6), (7, .int x7)] []) (hA209 : 0 ≤ k0 ∧ 0 ≤ s0) : ∀ (a1 : Nat) (a3 : Nat) (x4 : Int32) (x5 : Int32) (a6 : Nat) (x7 : Int32) (hp : hpT) (cells slots : Nat), P_L_law_b1210 L xs K209 a1 a3 x4 x5 a6 x7 hp Qp → cells + (0 + k0) ≤ mc → slots + (0 + s0) ≤ ms → GL D cA h0 p l e R s m args below meth c 23 Q cells slots hp 1210 [(0, .ref b0), (1, .ref a1), (3, .ref a3), (4, .int x4), (5, .int x5), (6, .ref a6), (7, .int x7)] [] := by
  intro a1 a3 x4 x5 a6 x7 hp cells slots h hc hs
  unfold P_L_law_b1210 at h
  refine l_iconst (pc := 1210) (v := 0) K dL_law_1210 (by decide) ?_
  exact B_L_law_b1211 (k0 := k0) (s0 := s0) K hR hret hX hbl hbA hK209 ⟨by omega, by omega⟩  _ _ _ _ _ _ _ _ _ _ h (by omega) (by omega)
set_option maxRecDepth 100000 in
set_option maxHeartbeats 4000000 in
theorem B_L_law_b1185 {R : Room} {mc ms : Nat} {k0 s0 : Nat} {Q : State → Prop} {Qp : Int32 → hpT → Prop} {b0 L : Nat} {xs : Nat → Int32} (K : Cx strL D cA h0 p l s m args meth c cL_law RL 23) (hR : R.cells = mc ∧ R.slots = ms ∧ 11 ≤ R.frames ∧ 221 ≤ R.locals) (hret : ∀ (pc : Nat) (v : Int32) (hp : hpT) (cells slots : Nat) (lv : List (Nat × Value)), decode cL_law pc = .ok (.ireturn, 1) → rtZP Qp v hp → cells ≤ mc → slots ≤ ms → GL D cA h0 p l e R s m args below meth c 23 Q cells slots hp pc lv [.int v]) (hX : va_X b0 L xs s s.heap) (hbl : b0 < s.heap.size) (hbA : ¬ Af h0 b0) {K209 : Nat → Int32 → Nat → Int32 → Int32 → Nat → Int32 → hpT → (Int32 → hpT → Prop) → Prop} (hK209 : ∀ (a1 : Nat) (x2 : Int32) (a3 : Nat) (x4 : Int32) (x5 : Int32) (a6 : Nat) (x7 : Int32) (hp : hpT) (cells slots : Nat), K209 a1 x2 a3 x4 x5 a6 x7 hp Qp → cells + k0 ≤ mc → slots + s0 ≤ ms → GL D cA h0 p l e R s m args below meth c 23 Q cells slots hp 209 [(0, .ref b0), (1, .ref a1), (2, .int x2), (3, .ref a3), (4, .int x4), (5, .int x5), (6, .ref a6), (7, .int x7)] []) (hA209 : 0 ≤ k0 ∧ 0 ≤ s0) : ∀ (a1 : Nat) (x2 : Int32) (a3 : Nat) (x4 : Int32) (x5 : Int32) (a6 : Nat) (x7 : Int32) (hp : hpT) (cells slots : Nat), P_L_law_b1185 L xs K209 a1 x2 a3 x4 x5 a6 x7 hp Qp → cells + (111 + k0) ≤ mc → slots + (1241 + s0) ≤ ms → GL D cA h0 p l e R s m args below meth c 23 Q cells slots hp 1185 [(0, .ref b0), (1, .ref a1), (2, .int x2), (3, .ref a3), (4, .int x4), (5, .int x5), (6, .ref a6), (7, .int x7)] [] := by
  intro a1 x2 a3 x4 x5 a6 x7 hp cells slots h hc hs
  unfold P_L_law_b1185 at h
  refine l_iload (pc := 1185) K 7 dL_law_1185 rfl ?_
  refine l_bipush (pc := 1187) (v := 23) K dL_law_1187 (by decide) ?_
  refine l_irem (pc := 1189) K dL_law_1189 h (fun h => ?_)
  refine l_bipush (pc := 1190) (v := 22) K dL_law_1190 (by decide) ?_
  refine l_icmp_ne (pc := 1192) (tgt := 1212) K dL_law_1192 (by decide) h (fun h => ?_) (fun h => ?_)
  · exact B_L_law_b1212 (k0 := k0) (s0 := s0) K hR hret hX hbl hbA hK209 ⟨by omega, by omega⟩  _ _ _ _ _ _ _ _ _ _ h (by omega) (by omega)
  · refine l_iload_n (pc := 1195) K 2 dL_law_1195 rfl ?_
    refine l_if_eq (pc := 1196) (tgt := 1210) K dL_law_1196 (by decide) h (fun h => ?_) (fun h => ?_)
    · refine l_sub [0, 1, 3, 4, 5, 6, 7] rfl ?_
      exact B_L_law_b1210 (k0 := k0) (s0 := s0) K hR hret hX hbl hbA hK209 ⟨by omega, by omega⟩  _ _ _ _ _ _ _ _ _ h (by omega) (by omega)
    · refine l_aload_n (pc := 1199) K 1 dL_law_1199 rfl ?_
      refine lS_bool (pc := 1200) (st := []) (As := [.ref a1]) K (M_L_refuses K.2.2.2.2.2.2.1 _ _ _ h) dL_law_1200 ce_L_refuses cs_L_refuses lk_RL_136 rfl rfl ⟨Nat.le_trans (by decide) hR.2.2.1, Nat.le_trans (by decide) hR.2.2.2⟩ rfl rfl (Nat.le_of_ble_eq_true rfl) (by rw [hR.1]; omega) (by rw [hR.2.1]; omega) (fun v25 h25 h => ?_)
      refine l_if_eq (pc := 1203) (tgt := 1210) K dL_law_1203 (by decide) h (fun h => ?_) (fun h => ?_)
      · refine l_sub [0, 1, 3, 4, 5, 6, 7] rfl ?_
        exact B_L_law_b1210 (k0 := k0) (s0 := s0) K hR hret hX hbl hbA hK209 ⟨by omega, by omega⟩  _ _ _ _ _ _ _ _ _ h (by omega) (by omega)
      · refine l_iconst (pc := 1206) (v := 1) K dL_law_1206 (by decide) ?_
        refine l_goto (pc := 1207) (tgt := 1211) K dL_law_1207 (by decide) ?_
        refine l_sub [0, 1, 3, 4, 5, 6, 7] rfl ?_
        exact B_L_law_b1211 (k0 := k0) (s0 := s0) K hR hret hX hbl hbA hK209 ⟨by omega, by omega⟩  _ _ _ _ _ _ _ _ _ _ h (by omega) (by omega)
set_option maxRecDepth 100000 in
set_option maxHeartbeats 4000000 in
theorem B_L_law_b1184 {R : Room} {mc ms : Nat} {k0 s0 : Nat} {Q : State → Prop} {Qp : Int32 → hpT → Prop} {b0 L : Nat} {xs : Nat → Int32} (K : Cx strL D cA h0 p l s m args meth c cL_law RL 23) (hR : R.cells = mc ∧ R.slots = ms ∧ 11 ≤ R.frames ∧ 221 ≤ R.locals) (hret : ∀ (pc : Nat) (v : Int32) (hp : hpT) (cells slots : Nat) (lv : List (Nat × Value)), decode cL_law pc = .ok (.ireturn, 1) → rtZP Qp v hp → cells ≤ mc → slots ≤ ms → GL D cA h0 p l e R s m args below meth c 23 Q cells slots hp pc lv [.int v]) (hX : va_X b0 L xs s s.heap) (hbl : b0 < s.heap.size) (hbA : ¬ Af h0 b0) {K209 : Nat → Int32 → Nat → Int32 → Int32 → Nat → Int32 → hpT → (Int32 → hpT → Prop) → Prop} (hK209 : ∀ (a1 : Nat) (x2 : Int32) (a3 : Nat) (x4 : Int32) (x5 : Int32) (a6 : Nat) (x7 : Int32) (hp : hpT) (cells slots : Nat), K209 a1 x2 a3 x4 x5 a6 x7 hp Qp → cells + k0 ≤ mc → slots + s0 ≤ ms → GL D cA h0 p l e R s m args below meth c 23 Q cells slots hp 209 [(0, .ref b0), (1, .ref a1), (2, .int x2), (3, .ref a3), (4, .int x4), (5, .int x5), (6, .ref a6), (7, .int x7)] []) (hA209 : 0 ≤ k0 ∧ 0 ≤ s0) : ∀ (a1 : Nat) (a3 : Nat) (x4 : Int32) (x5 : Int32) (a6 : Nat) (x7 : Int32) (xs0 : Int32) (hp : hpT) (cells slots : Nat), P_L_law_b1184 L xs K209 a1 a3 x4 x5 a6 x7 xs0 hp Qp → cells + (111 + k0) ≤ mc → slots + (1241 + s0) ≤ ms → GL D cA h0 p l e R s m args below meth c 23 Q cells slots hp 1184 [(0, .ref b0), (1, .ref a1), (3, .ref a3), (4, .int x4), (5, .int x5), (6, .ref a6), (7, .int x7)] [.int xs0] := by
  intro a1 a3 x4 x5 a6 x7 xs0 hp cells slots h hc hs
  unfold P_L_law_b1184 at h
  refine l_istore_n (pc := 1184) (lv2 := [(2, .int xs0), (0, .ref b0), (1, .ref a1), (3, .ref a3), (4, .int x4), (5, .int x5), (6, .ref a6), (7, .int x7)]) K dL_law_1184 (by decide) rfl ?_
  refine l_sub [1, 2, 0, 3, 4, 5, 6, 7] rfl ?_
  exact B_L_law_b1185 (k0 := k0) (s0 := s0) K hR hret hX hbl hbA hK209 ⟨by omega, by omega⟩  _ _ _ _ _ _ _ _ _ _ h (by omega) (by omega)
set_option maxRecDepth 100000 in
set_option maxHeartbeats 4000000 in
theorem B_L_law_b1183 {R : Room} {mc ms : Nat} {k0 s0 : Nat} {Q : State → Prop} {Qp : Int32 → hpT → Prop} {b0 L : Nat} {xs : Nat → Int32} (K : Cx strL D cA h0 p l s m args meth c cL_law RL 23) (hR : R.cells = mc ∧ R.slots = ms ∧ 11 ≤ R.frames ∧ 221 ≤ R.locals) (hret : ∀ (pc : Nat) (v : Int32) (hp : hpT) (cells slots : Nat) (lv : List (Nat × Value)), decode cL_law pc = .ok (.ireturn, 1) → rtZP Qp v hp → cells ≤ mc → slots ≤ ms → GL D cA h0 p l e R s m args below meth c 23 Q cells slots hp pc lv [.int v]) (hX : va_X b0 L xs s s.heap) (hbl : b0 < s.heap.size) (hbA : ¬ Af h0 b0) {K209 : Nat → Int32 → Nat → Int32 → Int32 → Nat → Int32 → hpT → (Int32 → hpT → Prop) → Prop} (hK209 : ∀ (a1 : Nat) (x2 : Int32) (a3 : Nat) (x4 : Int32) (x5 : Int32) (a6 : Nat) (x7 : Int32) (hp : hpT) (cells slots : Nat), K209 a1 x2 a3 x4 x5 a6 x7 hp Qp → cells + k0 ≤ mc → slots + s0 ≤ ms → GL D cA h0 p l e R s m args below meth c 23 Q cells slots hp 209 [(0, .ref b0), (1, .ref a1), (2, .int x2), (3, .ref a3), (4, .int x4), (5, .int x5), (6, .ref a6), (7, .int x7)] []) (hA209 : 0 ≤ k0 ∧ 0 ≤ s0) : ∀ (a1 : Nat) (a3 : Nat) (x4 : Int32) (x5 : Int32) (a6 : Nat) (x7 : Int32) (hp : hpT) (cells slots : Nat), P_L_law_b1183 L xs K209 a1 a3 x4 x5 a6 x7 hp Qp → cells + (111 + k0) ≤ mc → slots + (1241 + s0) ≤ ms → GL D cA h0 p l e R s m args below meth c 23 Q cells slots hp 1183 [(0, .ref b0), (1, .ref a1), (3, .ref a3), (4, .int x4), (5, .int x5), (6, .ref a6), (7, .int x7)] [] := by
  intro a1 a3 x4 x5 a6 x7 hp cells slots h hc hs
  unfold P_L_law_b1183 at h
  refine l_iconst (pc := 1183) (v := 0) K dL_law_1183 (by decide) ?_
  exact B_L_law_b1184 (k0 := k0) (s0 := s0) K hR hret hX hbl hbA hK209 ⟨by omega, by omega⟩  _ _ _ _ _ _ _ _ _ _ h (by omega) (by omega)
set_option maxRecDepth 100000 in
set_option maxHeartbeats 4000000 in
theorem B_L_law_b1140 {R : Room} {mc ms : Nat} {k0 s0 : Nat} {Q : State → Prop} {Qp : Int32 → hpT → Prop} {b0 L : Nat} {xs : Nat → Int32} (K : Cx strL D cA h0 p l s m args meth c cL_law RL 23) (hR : R.cells = mc ∧ R.slots = ms ∧ 11 ≤ R.frames ∧ 221 ≤ R.locals) (hret : ∀ (pc : Nat) (v : Int32) (hp : hpT) (cells slots : Nat) (lv : List (Nat × Value)), decode cL_law pc = .ok (.ireturn, 1) → rtZP Qp v hp → cells ≤ mc → slots ≤ ms → GL D cA h0 p l e R s m args below meth c 23 Q cells slots hp pc lv [.int v]) (hX : va_X b0 L xs s s.heap) (hbl : b0 < s.heap.size) (hbA : ¬ Af h0 b0) {K209 : Nat → Int32 → Nat → Int32 → Int32 → Nat → Int32 → hpT → (Int32 → hpT → Prop) → Prop} (hK209 : ∀ (a1 : Nat) (x2 : Int32) (a3 : Nat) (x4 : Int32) (x5 : Int32) (a6 : Nat) (x7 : Int32) (hp : hpT) (cells slots : Nat), K209 a1 x2 a3 x4 x5 a6 x7 hp Qp → cells + k0 ≤ mc → slots + s0 ≤ ms → GL D cA h0 p l e R s m args below meth c 23 Q cells slots hp 209 [(0, .ref b0), (1, .ref a1), (2, .int x2), (3, .ref a3), (4, .int x4), (5, .int x5), (6, .ref a6), (7, .int x7)] []) (hA209 : 0 ≤ k0 ∧ 0 ≤ s0) : ∀ (a1 : Nat) (x2 : Int32) (a3 : Nat) (x4 : Int32) (x5 : Int32) (a6 : Nat) (x7 : Int32) (x11 : Int32) (hp : hpT) (cells slots : Nat), P_L_law_b1140 L xs K209 a1 x2 a3 x4 x5 a6 x7 x11 hp Qp → cells + (1679 + k0) ≤ mc → slots + (10649 + s0) ≤ ms → GL D cA h0 p l e R s m args below meth c 23 Q cells slots hp 1140 [(0, .ref b0), (1, .ref a1), (2, .int x2), (3, .ref a3), (4, .int x4), (5, .int x5), (6, .ref a6), (7, .int x7), (11, .int x11)] [] := by
  intro a1 x2 a3 x4 x5 a6 x7 x11 hp cells slots h hc hs
  unfold P_L_law_b1140 at h
  refine l_iload (pc := 1140) K 7 dL_law_1140 rfl ?_
  refine l_bipush (pc := 1142) (v := 6) K dL_law_1142 (by decide) ?_
  refine l_irem (pc := 1144) K dL_law_1144 h (fun h => ?_)
  refine l_iconst (pc := 1145) (v := 5) K dL_law_1145 (by decide) ?_
  refine l_icmp_ne (pc := 1146) (tgt := 1185) K dL_law_1146 (by decide) h (fun h => ?_) (fun h => ?_)
  · refine l_sub [0, 1, 2, 3, 4, 5, 6, 7] rfl ?_
    exact B_L_law_b1185 (k0 := k0) (s0 := s0) K hR hret hX hbl hbA hK209 ⟨by omega, by omega⟩  _ _ _ _ _ _ _ _ _ _ h (by omega) (by omega)
  · refine l_iload_n (pc := 1149) K 2 dL_law_1149 rfl ?_
    refine l_if_eq (pc := 1150) (tgt := 1183) K dL_law_1150 (by decide) h (fun h => ?_) (fun h => ?_)
    · refine l_sub [0, 1, 3, 4, 5, 6, 7] rfl ?_
      exact B_L_law_b1183 (k0 := k0) (s0 := s0) K hR hret hX hbl hbA hK209 ⟨by omega, by omega⟩  _ _ _ _ _ _ _ _ _ h (by omega) (by omega)
    · refine l_aload_n (pc := 1153) K 1 dL_law_1153 rfl ?_
      refine l_iload (pc := 1154) K 8 dL_law_1154 rfl ?_
      refine l_aload (pc := 1156) K 6 dL_law_1156 rfl ?_
      refine lS_bool (pc := 1158) (st := []) (As := [.ref a1, .int x11, .ref a6]) K (M_L_roomHolds K.2.2.2.2.2.2.1 _ _ _ _ _ h) dL_law_1158 ce_L_roomHolds cs_L_roomHolds lk_RL_132 rfl rfl ⟨Nat.le_trans (by decide) hR.2.2.1, Nat.le_trans (by decide) hR.2.2.2⟩ rfl rfl (Nat.le_of_ble_eq_true rfl) (by rw [hR.1]; omega) (by rw [hR.2.1]; omega) (fun v26 h26 h => ?_)
      refine l_if_eq (pc := 1161) (tgt := 1183) K dL_law_1161 (by decide) h (fun h => ?_) (fun h => ?_)
      · refine l_sub [0, 1, 3, 4, 5, 6, 7] rfl ?_
        exact B_L_law_b1183 (k0 := k0) (s0 := s0) K hR hret hX hbl hbA hK209 ⟨by omega, by omega⟩  _ _ _ _ _ _ _ _ _ h (by omega) (by omega)
      · refine l_aload_n (pc := 1164) K 1 dL_law_1164 rfl ?_
        refine l_iload (pc := 1165) K 8 dL_law_1165 rfl ?_
        refine l_iconst (pc := 1167) (v := 1) K dL_law_1167 (by decide) ?_
        refine l_iadd (pc := 1168) K dL_law_1168 ?_
        refine l_iconst (pc := 1169) (v := 4) K dL_law_1169 (by decide) ?_
        refine l_irem (pc := 1170) K dL_law_1170 h (fun h => ?_)
        refine l_aload (pc := 1171) K 6 dL_law_1171 rfl ?_
        refine lS_bool (pc := 1173) (st := []) (As := [.ref a1, .int (irm (x11 + 1) 4), .ref a6]) K (M_L_roomHolds K.2.2.2.2.2.2.1 _ _ _ _ _ h) dL_law_1173 ce_L_roomHolds cs_L_roomHolds lk_RL_132 rfl rfl ⟨Nat.le_trans (by decide) hR.2.2.1, Nat.le_trans (by decide) hR.2.2.2⟩ rfl rfl (Nat.le_of_ble_eq_true rfl) (by rw [hR.1]; omega) (by rw [hR.2.1]; omega) (fun v27 h27 h => ?_)
        refine l_if_eq (pc := 1176) (tgt := 1183) K dL_law_1176 (by decide) h (fun h => ?_) (fun h => ?_)
        · refine l_sub [0, 1, 3, 4, 5, 6, 7] rfl ?_
          exact B_L_law_b1183 (k0 := k0) (s0 := s0) K hR hret hX hbl hbA hK209 ⟨by omega, by omega⟩  _ _ _ _ _ _ _ _ _ h (by omega) (by omega)
        · refine l_iconst (pc := 1179) (v := 1) K dL_law_1179 (by decide) ?_
          refine l_goto (pc := 1180) (tgt := 1184) K dL_law_1180 (by decide) ?_
          refine l_sub [0, 1, 3, 4, 5, 6, 7] rfl ?_
          exact B_L_law_b1184 (k0 := k0) (s0 := s0) K hR hret hX hbl hbA hK209 ⟨by omega, by omega⟩  _ _ _ _ _ _ _ _ _ _ h (by omega) (by omega)
set_option maxRecDepth 100000 in
set_option maxHeartbeats 4000000 in
theorem B_L_law_b380 {R : Room} {mc ms : Nat} {k0 s0 : Nat} {Q : State → Prop} {Qp : Int32 → hpT → Prop} {b0 L : Nat} {xs : Nat → Int32} (K : Cx strL D cA h0 p l s m args meth c cL_law RL 23) (hR : R.cells = mc ∧ R.slots = ms ∧ 11 ≤ R.frames ∧ 221 ≤ R.locals) (hret : ∀ (pc : Nat) (v : Int32) (hp : hpT) (cells slots : Nat) (lv : List (Nat × Value)), decode cL_law pc = .ok (.ireturn, 1) → rtZP Qp v hp → cells ≤ mc → slots ≤ ms → GL D cA h0 p l e R s m args below meth c 23 Q cells slots hp pc lv [.int v]) (hX : va_X b0 L xs s s.heap) (hbl : b0 < s.heap.size) (hbA : ¬ Af h0 b0) {K209 : Nat → Int32 → Nat → Int32 → Int32 → Nat → Int32 → hpT → (Int32 → hpT → Prop) → Prop} (hK209 : ∀ (a1 : Nat) (x2 : Int32) (a3 : Nat) (x4 : Int32) (x5 : Int32) (a6 : Nat) (x7 : Int32) (hp : hpT) (cells slots : Nat), K209 a1 x2 a3 x4 x5 a6 x7 hp Qp → cells + k0 ≤ mc → slots + s0 ≤ ms → GL D cA h0 p l e R s m args below meth c 23 Q cells slots hp 209 [(0, .ref b0), (1, .ref a1), (2, .int x2), (3, .ref a3), (4, .int x4), (5, .int x5), (6, .ref a6), (7, .int x7)] []) (hA209 : 0 ≤ k0 ∧ 0 ≤ s0) : ∀ (a1 : Nat) (a3 : Nat) (x4 : Int32) (x5 : Int32) (a6 : Nat) (x7 : Int32) (x11 : Int32) (xs0 : Int32) (hp : hpT) (cells slots : Nat), P_L_law_b380 L xs K209 a1 a3 x4 x5 a6 x7 x11 xs0 hp Qp → cells + (1679 + k0) ≤ mc → slots + (10649 + s0) ≤ ms → GL D cA h0 p l e R s m args below meth c 23 Q cells slots hp 380 [(0, .ref b0), (1, .ref a1), (3, .ref a3), (4, .int x4), (5, .int x5), (6, .ref a6), (7, .int x7), (11, .int x11)] [.int xs0] := by
  intro a1 a3 x4 x5 a6 x7 x11 xs0 hp cells slots h hc hs
  unfold P_L_law_b380 at h
  refine l_istore_n (pc := 380) (lv2 := [(2, .int xs0), (0, .ref b0), (1, .ref a1), (3, .ref a3), (4, .int x4), (5, .int x5), (6, .ref a6), (7, .int x7), (11, .int x11)]) K dL_law_380 (by decide) rfl ?_
  refine l_goto (pc := 381) (tgt := 1140) K dL_law_381 (by decide) ?_
  refine l_sub [1, 2, 0, 3, 4, 5, 6, 7, 8] rfl ?_
  exact B_L_law_b1140 (k0 := k0) (s0 := s0) K hR hret hX hbl hbA hK209 ⟨by omega, by omega⟩  _ _ _ _ _ _ _ _ _ _ _ h (by omega) (by omega)
set_option maxRecDepth 100000 in
set_option maxHeartbeats 4000000 in
theorem B_L_law_b379 {R : Room} {mc ms : Nat} {k0 s0 : Nat} {Q : State → Prop} {Qp : Int32 → hpT → Prop} {b0 L : Nat} {xs : Nat → Int32} (K : Cx strL D cA h0 p l s m args meth c cL_law RL 23) (hR : R.cells = mc ∧ R.slots = ms ∧ 11 ≤ R.frames ∧ 221 ≤ R.locals) (hret : ∀ (pc : Nat) (v : Int32) (hp : hpT) (cells slots : Nat) (lv : List (Nat × Value)), decode cL_law pc = .ok (.ireturn, 1) → rtZP Qp v hp → cells ≤ mc → slots ≤ ms → GL D cA h0 p l e R s m args below meth c 23 Q cells slots hp pc lv [.int v]) (hX : va_X b0 L xs s s.heap) (hbl : b0 < s.heap.size) (hbA : ¬ Af h0 b0) {K209 : Nat → Int32 → Nat → Int32 → Int32 → Nat → Int32 → hpT → (Int32 → hpT → Prop) → Prop} (hK209 : ∀ (a1 : Nat) (x2 : Int32) (a3 : Nat) (x4 : Int32) (x5 : Int32) (a6 : Nat) (x7 : Int32) (hp : hpT) (cells slots : Nat), K209 a1 x2 a3 x4 x5 a6 x7 hp Qp → cells + k0 ≤ mc → slots + s0 ≤ ms → GL D cA h0 p l e R s m args below meth c 23 Q cells slots hp 209 [(0, .ref b0), (1, .ref a1), (2, .int x2), (3, .ref a3), (4, .int x4), (5, .int x5), (6, .ref a6), (7, .int x7)] []) (hA209 : 0 ≤ k0 ∧ 0 ≤ s0) : ∀ (a1 : Nat) (a3 : Nat) (x4 : Int32) (x5 : Int32) (a6 : Nat) (x7 : Int32) (x11 : Int32) (hp : hpT) (cells slots : Nat), P_L_law_b379 L xs K209 a1 a3 x4 x5 a6 x7 x11 hp Qp → cells + (1679 + k0) ≤ mc → slots + (10649 + s0) ≤ ms → GL D cA h0 p l e R s m args below meth c 23 Q cells slots hp 379 [(0, .ref b0), (1, .ref a1), (3, .ref a3), (4, .int x4), (5, .int x5), (6, .ref a6), (7, .int x7), (11, .int x11)] [] := by
  intro a1 a3 x4 x5 a6 x7 x11 hp cells slots h hc hs
  unfold P_L_law_b379 at h
  refine l_iconst (pc := 379) (v := 0) K dL_law_379 (by decide) ?_
  exact B_L_law_b380 (k0 := k0) (s0 := s0) K hR hret hX hbl hbA hK209 ⟨by omega, by omega⟩  _ _ _ _ _ _ _ _ _ _ _ h (by omega) (by omega)
set_option maxRecDepth 100000 in
set_option maxHeartbeats 4000000 in
theorem B_L_law_b503 {R : Room} {mc ms : Nat} {k0 s0 : Nat} {Q : State → Prop} {Qp : Int32 → hpT → Prop} {b0 L : Nat} {xs : Nat → Int32} (K : Cx strL D cA h0 p l s m args meth c cL_law RL 23) (hR : R.cells = mc ∧ R.slots = ms ∧ 11 ≤ R.frames ∧ 221 ≤ R.locals) (hret : ∀ (pc : Nat) (v : Int32) (hp : hpT) (cells slots : Nat) (lv : List (Nat × Value)), decode cL_law pc = .ok (.ireturn, 1) → rtZP Qp v hp → cells ≤ mc → slots ≤ ms → GL D cA h0 p l e R s m args below meth c 23 Q cells slots hp pc lv [.int v]) (hX : va_X b0 L xs s s.heap) (hbl : b0 < s.heap.size) (hbA : ¬ Af h0 b0) {K209 : Nat → Int32 → Nat → Int32 → Int32 → Nat → Int32 → hpT → (Int32 → hpT → Prop) → Prop} (hK209 : ∀ (a1 : Nat) (x2 : Int32) (a3 : Nat) (x4 : Int32) (x5 : Int32) (a6 : Nat) (x7 : Int32) (hp : hpT) (cells slots : Nat), K209 a1 x2 a3 x4 x5 a6 x7 hp Qp → cells + k0 ≤ mc → slots + s0 ≤ ms → GL D cA h0 p l e R s m args below meth c 23 Q cells slots hp 209 [(0, .ref b0), (1, .ref a1), (2, .int x2), (3, .ref a3), (4, .int x4), (5, .int x5), (6, .ref a6), (7, .int x7)] []) (hA209 : 0 ≤ k0 ∧ 0 ≤ s0) : ∀ (a1 : Nat) (a3 : Nat) (x4 : Int32) (x5 : Int32) (a6 : Nat) (x7 : Int32) (x11 : Int32) (xs0 : Int32) (hp : hpT) (cells slots : Nat), P_L_law_b503 L xs K209 a1 a3 x4 x5 a6 x7 x11 xs0 hp Qp → cells + (1679 + k0) ≤ mc → slots + (10649 + s0) ≤ ms → GL D cA h0 p l e R s m args below meth c 23 Q cells slots hp 503 [(0, .ref b0), (1, .ref a1), (3, .ref a3), (4, .int x4), (5, .int x5), (6, .ref a6), (7, .int x7), (11, .int x11)] [.int xs0] := by
  intro a1 a3 x4 x5 a6 x7 x11 xs0 hp cells slots h hc hs
  unfold P_L_law_b503 at h
  refine l_istore_n (pc := 503) (lv2 := [(2, .int xs0), (0, .ref b0), (1, .ref a1), (3, .ref a3), (4, .int x4), (5, .int x5), (6, .ref a6), (7, .int x7), (11, .int x11)]) K dL_law_503 (by decide) rfl ?_
  refine l_goto (pc := 504) (tgt := 1140) K dL_law_504 (by decide) ?_
  refine l_sub [1, 2, 0, 3, 4, 5, 6, 7, 8] rfl ?_
  exact B_L_law_b1140 (k0 := k0) (s0 := s0) K hR hret hX hbl hbA hK209 ⟨by omega, by omega⟩  _ _ _ _ _ _ _ _ _ _ _ h (by omega) (by omega)
set_option maxRecDepth 100000 in
set_option maxHeartbeats 4000000 in
theorem B_L_law_b502 {R : Room} {mc ms : Nat} {k0 s0 : Nat} {Q : State → Prop} {Qp : Int32 → hpT → Prop} {b0 L : Nat} {xs : Nat → Int32} (K : Cx strL D cA h0 p l s m args meth c cL_law RL 23) (hR : R.cells = mc ∧ R.slots = ms ∧ 11 ≤ R.frames ∧ 221 ≤ R.locals) (hret : ∀ (pc : Nat) (v : Int32) (hp : hpT) (cells slots : Nat) (lv : List (Nat × Value)), decode cL_law pc = .ok (.ireturn, 1) → rtZP Qp v hp → cells ≤ mc → slots ≤ ms → GL D cA h0 p l e R s m args below meth c 23 Q cells slots hp pc lv [.int v]) (hX : va_X b0 L xs s s.heap) (hbl : b0 < s.heap.size) (hbA : ¬ Af h0 b0) {K209 : Nat → Int32 → Nat → Int32 → Int32 → Nat → Int32 → hpT → (Int32 → hpT → Prop) → Prop} (hK209 : ∀ (a1 : Nat) (x2 : Int32) (a3 : Nat) (x4 : Int32) (x5 : Int32) (a6 : Nat) (x7 : Int32) (hp : hpT) (cells slots : Nat), K209 a1 x2 a3 x4 x5 a6 x7 hp Qp → cells + k0 ≤ mc → slots + s0 ≤ ms → GL D cA h0 p l e R s m args below meth c 23 Q cells slots hp 209 [(0, .ref b0), (1, .ref a1), (2, .int x2), (3, .ref a3), (4, .int x4), (5, .int x5), (6, .ref a6), (7, .int x7)] []) (hA209 : 0 ≤ k0 ∧ 0 ≤ s0) : ∀ (a1 : Nat) (a3 : Nat) (x4 : Int32) (x5 : Int32) (a6 : Nat) (x7 : Int32) (x11 : Int32) (hp : hpT) (cells slots : Nat), P_L_law_b502 L xs K209 a1 a3 x4 x5 a6 x7 x11 hp Qp → cells + (1679 + k0) ≤ mc → slots + (10649 + s0) ≤ ms → GL D cA h0 p l e R s m args below meth c 23 Q cells slots hp 502 [(0, .ref b0), (1, .ref a1), (3, .ref a3), (4, .int x4), (5, .int x5), (6, .ref a6), (7, .int x7), (11, .int x11)] [] := by
  intro a1 a3 x4 x5 a6 x7 x11 hp cells slots h hc hs
  unfold P_L_law_b502 at h
  refine l_iconst (pc := 502) (v := 0) K dL_law_502 (by decide) ?_
  exact B_L_law_b503 (k0 := k0) (s0 := s0) K hR hret hX hbl hbA hK209 ⟨by omega, by omega⟩  _ _ _ _ _ _ _ _ _ _ _ h (by omega) (by omega)
set_option maxRecDepth 100000 in
set_option maxHeartbeats 4000000 in
theorem B_L_law_b477 {R : Room} {mc ms : Nat} {k0 s0 : Nat} {Q : State → Prop} {Qp : Int32 → hpT → Prop} {b0 L : Nat} {xs : Nat → Int32} (K : Cx strL D cA h0 p l s m args meth c cL_law RL 23) (hR : R.cells = mc ∧ R.slots = ms ∧ 11 ≤ R.frames ∧ 221 ≤ R.locals) (hret : ∀ (pc : Nat) (v : Int32) (hp : hpT) (cells slots : Nat) (lv : List (Nat × Value)), decode cL_law pc = .ok (.ireturn, 1) → rtZP Qp v hp → cells ≤ mc → slots ≤ ms → GL D cA h0 p l e R s m args below meth c 23 Q cells slots hp pc lv [.int v]) (hX : va_X b0 L xs s s.heap) (hbl : b0 < s.heap.size) (hbA : ¬ Af h0 b0) {K209 : Nat → Int32 → Nat → Int32 → Int32 → Nat → Int32 → hpT → (Int32 → hpT → Prop) → Prop} (hK209 : ∀ (a1 : Nat) (x2 : Int32) (a3 : Nat) (x4 : Int32) (x5 : Int32) (a6 : Nat) (x7 : Int32) (hp : hpT) (cells slots : Nat), K209 a1 x2 a3 x4 x5 a6 x7 hp Qp → cells + k0 ≤ mc → slots + s0 ≤ ms → GL D cA h0 p l e R s m args below meth c 23 Q cells slots hp 209 [(0, .ref b0), (1, .ref a1), (2, .int x2), (3, .ref a3), (4, .int x4), (5, .int x5), (6, .ref a6), (7, .int x7)] []) (hA209 : 0 ≤ k0 ∧ 0 ≤ s0) : ∀ (a1 : Nat) (x2 : Int32) (a3 : Nat) (x4 : Int32) (a6 : Nat) (x7 : Int32) (x11 : Int32) (xs0 : Int32) (xs1 : Int32) (hp : hpT) (cells slots : Nat), P_L_law_b477 L xs K209 a1 x2 a3 x4 a6 x7 x11 xs0 xs1 hp Qp → cells + (1681 + k0) ≤ mc → slots + (10661 + s0) ≤ ms → GL D cA h0 p l e R s m args below meth c 23 Q cells slots hp 477 [(0, .ref b0), (1, .ref a1), (2, .int x2), (3, .ref a3), (4, .int x4), (6, .ref a6), (7, .int x7), (11, .int x11)] [.int xs0, .int xs1] := by
  intro a1 x2 a3 x4 a6 x7 x11 xs0 xs1 hp cells slots h hc hs
  unfold P_L_law_b477 at h
  refine l_iadd (pc := 477) K dL_law_477 ?_
  refine l_istore (pc := 478) (lv2 := [(5, .int (xs1 + xs0)), (0, .ref b0), (1, .ref a1), (2, .int x2), (3, .ref a3), (4, .int x4), (6, .ref a6), (7, .int x7), (11, .int x11)]) K dL_law_478 (by decide) rfl ?_
  refine l_iload_n (pc := 480) K 3 dL_law_480 rfl ?_
  refine l_if_eq (pc := 481) (tgt := 502) K dL_law_481 (by decide) h (fun h => ?_) (fun h => ?_)
  · refine l_sub [1, 2, 4, 5, 0, 6, 7, 8] rfl ?_
    exact B_L_law_b502 (k0 := k0) (s0 := s0) K hR hret hX hbl hbA hK209 ⟨by omega, by omega⟩  _ _ _ _ _ _ _ _ _ _ h (by omega) (by omega)
  · refine l_aload_n (pc := 484) K 2 dL_law_484 rfl ?_
    refine l_iload (pc := 485) K 0 dL_law_485 rfl ?_
    refine l_iconst (pc := 487) (v := 1) K dL_law_487 (by decide) ?_
    refine l_isub (pc := 488) K dL_law_488 ?_
    refine l_iconst (pc := 489) (v := 4) K dL_law_489 (by decide) ?_
    refine lW_long (pc := 490) (st := []) (As := [.ref a1, .int ((xs1 + xs0) - 1), .int 4]) K (M_L_lotOf K.2.2.2.2.2.2.1 _ _ _ _ _ h) dL_law_490 cw_L_lotOf cs_L_lotOf lw_RL_99 rfl rfl ⟨Nat.le_trans (by decide) hR.2.2.1, Nat.le_trans (by decide) hR.2.2.2⟩ rfl rfl (Nat.le_of_ble_eq_true rfl) (by rw [hR.1]; omega) (by rw [hR.2.1]; omega) (fun v28 h28 h => ?_)
    refine l_lconst (pc := 493) (v := 1) K dL_law_493 (by decide) ?_
    refine l_lc_lt (pc := 494) (tgt := 502) K dL_law_494 dL_law_495 (by decide) h (fun h => ?_) (fun h => ?_)
    · refine l_sub [1, 2, 4, 5, 0, 6, 7, 8] rfl ?_
      exact B_L_law_b502 (k0 := k0) (s0 := s0) K hR hret hX hbl hbA hK209 ⟨by omega, by omega⟩  _ _ _ _ _ _ _ _ _ _ h (by omega) (by omega)
    · refine l_iconst (pc := 498) (v := 1) K dL_law_498 (by decide) ?_
      refine l_goto (pc := 499) (tgt := 503) K dL_law_499 (by decide) ?_
      refine l_sub [1, 2, 4, 5, 0, 6, 7, 8] rfl ?_
      exact B_L_law_b503 (k0 := k0) (s0 := s0) K hR hret hX hbl hbA hK209 ⟨by omega, by omega⟩  _ _ _ _ _ _ _ _ _ _ _ h (by omega) (by omega)
set_option maxRecDepth 100000 in
set_option maxHeartbeats 4000000 in
theorem B_L_law_b462 {R : Room} {mc ms : Nat} {k0 s0 : Nat} {Q : State → Prop} {Qp : Int32 → hpT → Prop} {b0 L : Nat} {xs : Nat → Int32} (K : Cx strL D cA h0 p l s m args meth c cL_law RL 23) (hR : R.cells = mc ∧ R.slots = ms ∧ 11 ≤ R.frames ∧ 221 ≤ R.locals) (hret : ∀ (pc : Nat) (v : Int32) (hp : hpT) (cells slots : Nat) (lv : List (Nat × Value)), decode cL_law pc = .ok (.ireturn, 1) → rtZP Qp v hp → cells ≤ mc → slots ≤ ms → GL D cA h0 p l e R s m args below meth c 23 Q cells slots hp pc lv [.int v]) (hX : va_X b0 L xs s s.heap) (hbl : b0 < s.heap.size) (hbA : ¬ Af h0 b0) {K209 : Nat → Int32 → Nat → Int32 → Int32 → Nat → Int32 → hpT → (Int32 → hpT → Prop) → Prop} (hK209 : ∀ (a1 : Nat) (x2 : Int32) (a3 : Nat) (x4 : Int32) (x5 : Int32) (a6 : Nat) (x7 : Int32) (hp : hpT) (cells slots : Nat), K209 a1 x2 a3 x4 x5 a6 x7 hp Qp → cells + k0 ≤ mc → slots + s0 ≤ ms → GL D cA h0 p l e R s m args below meth c 23 Q cells slots hp 209 [(0, .ref b0), (1, .ref a1), (2, .int x2), (3, .ref a3), (4, .int x4), (5, .int x5), (6, .ref a6), (7, .int x7)] []) (hA209 : 0 ≤ k0 ∧ 0 ≤ s0) : ∀ (a1 : Nat) (a3 : Nat) (x4 : Int32) (x5 : Int32) (a6 : Nat) (x7 : Int32) (x11 : Int32) (xs0 : Int32) (hp : hpT) (cells slots : Nat), P_L_law_b462 L xs K209 a1 a3 x4 x5 a6 x7 x11 xs0 hp Qp → cells + (1681 + k0) ≤ mc → slots + (10661 + s0) ≤ ms → GL D cA h0 p l e R s m args below meth c 23 Q cells slots hp 462 [(0, .ref b0), (1, .ref a1), (3, .ref a3), (4, .int x4), (5, .int x5), (6, .ref a6), (7, .int x7), (11, .int x11)] [.int xs0] := by
  intro a1 a3 x4 x5 a6 x7 x11 xs0 hp cells slots h hc hs
  unfold P_L_law_b462 at h
  refine l_istore_n (pc := 462) (lv2 := [(2, .int xs0), (0, .ref b0), (1, .ref a1), (3, .ref a3), (4, .int x4), (5, .int x5), (6, .ref a6), (7, .int x7), (11, .int x11)]) K dL_law_462 (by decide) rfl ?_
  refine l_iload (pc := 463) K 5 dL_law_463 rfl ?_
  refine l_iload (pc := 465) K 5 dL_law_465 rfl ?_
  refine l_bipush (pc := 467) (v := 10) K dL_law_467 (by decide) ?_
  refine l_icmp_ne (pc := 469) (tgt := 476) K dL_law_469 (by decide) h (fun h => ?_) (fun h => ?_)
  · refine l_iconst (pc := 476) (v := 1) K dL_law_476 (by decide) ?_
    refine l_sub [1, 2, 0, 3, 4, 6, 7, 8] rfl ?_
    exact B_L_law_b477 (k0 := k0) (s0 := s0) K hR hret hX hbl hbA hK209 ⟨by omega, by omega⟩  _ _ _ _ _ _ _ _ _ _ _ _ h (by omega) (by omega)
  · refine l_iconst (pc := 472) (v := 0) K dL_law_472 (by decide) ?_
    refine l_goto (pc := 473) (tgt := 477) K dL_law_473 (by decide) ?_
    refine l_sub [1, 2, 0, 3, 4, 6, 7, 8] rfl ?_
    exact B_L_law_b477 (k0 := k0) (s0 := s0) K hR hret hX hbl hbA hK209 ⟨by omega, by omega⟩  _ _ _ _ _ _ _ _ _ _ _ _ h (by omega) (by omega)
set_option maxRecDepth 100000 in
set_option maxHeartbeats 4000000 in
theorem B_L_law_b453 {R : Room} {mc ms : Nat} {k0 s0 : Nat} {Q : State → Prop} {Qp : Int32 → hpT → Prop} {b0 L : Nat} {xs : Nat → Int32} (K : Cx strL D cA h0 p l s m args meth c cL_law RL 23) (hR : R.cells = mc ∧ R.slots = ms ∧ 11 ≤ R.frames ∧ 221 ≤ R.locals) (hret : ∀ (pc : Nat) (v : Int32) (hp : hpT) (cells slots : Nat) (lv : List (Nat × Value)), decode cL_law pc = .ok (.ireturn, 1) → rtZP Qp v hp → cells ≤ mc → slots ≤ ms → GL D cA h0 p l e R s m args below meth c 23 Q cells slots hp pc lv [.int v]) (hX : va_X b0 L xs s s.heap) (hbl : b0 < s.heap.size) (hbA : ¬ Af h0 b0) {K209 : Nat → Int32 → Nat → Int32 → Int32 → Nat → Int32 → hpT → (Int32 → hpT → Prop) → Prop} (hK209 : ∀ (a1 : Nat) (x2 : Int32) (a3 : Nat) (x4 : Int32) (x5 : Int32) (a6 : Nat) (x7 : Int32) (hp : hpT) (cells slots : Nat), K209 a1 x2 a3 x4 x5 a6 x7 hp Qp → cells + k0 ≤ mc → slots + s0 ≤ ms → GL D cA h0 p l e R s m args below meth c 23 Q cells slots hp 209 [(0, .ref b0), (1, .ref a1), (2, .int x2), (3, .ref a3), (4, .int x4), (5, .int x5), (6, .ref a6), (7, .int x7)] []) (hA209 : 0 ≤ k0 ∧ 0 ≤ s0) : ∀ (a1 : Nat) (a3 : Nat) (x4 : Int32) (x5 : Int32) (a6 : Nat) (x7 : Int32) (x11 : Int32) (ys0 : Int64) (ys1 : Int64) (hp : hpT) (cells slots : Nat), P_L_law_b453 L xs K209 a1 a3 x4 x5 a6 x7 x11 ys0 ys1 hp Qp → cells + (1681 + k0) ≤ mc → slots + (10661 + s0) ≤ ms → GL D cA h0 p l e R s m args below meth c 23 Q cells slots hp 453 [(0, .ref b0), (1, .ref a1), (3, .ref a3), (4, .int x4), (5, .int x5), (6, .ref a6), (7, .int x7), (11, .int x11)] [.long ys0, .long ys1] := by
  intro a1 a3 x4 x5 a6 x7 x11 ys0 ys1 hp cells slots h hc hs
  unfold P_L_law_b453 at h
  refine l_lc_ne (pc := 453) (tgt := 461) K dL_law_453 dL_law_454 (by decide) h (fun h => ?_) (fun h => ?_)
  · refine l_iconst (pc := 461) (v := 0) K dL_law_461 (by decide) ?_
    exact B_L_law_b462 (k0 := k0) (s0 := s0) K hR hret hX hbl hbA hK209 ⟨by omega, by omega⟩  _ _ _ _ _ _ _ _ _ _ _ h (by omega) (by omega)
  · refine l_iconst (pc := 457) (v := 1) K dL_law_457 (by decide) ?_
    refine l_goto (pc := 458) (tgt := 462) K dL_law_458 (by decide) ?_
    exact B_L_law_b462 (k0 := k0) (s0 := s0) K hR hret hX hbl hbA hK209 ⟨by omega, by omega⟩  _ _ _ _ _ _ _ _ _ _ _ h (by omega) (by omega)
set_option maxRecDepth 100000 in
set_option maxHeartbeats 4000000 in
theorem B_L_law_b623 {R : Room} {mc ms : Nat} {k0 s0 : Nat} {Q : State → Prop} {Qp : Int32 → hpT → Prop} {b0 L : Nat} {xs : Nat → Int32} (K : Cx strL D cA h0 p l s m args meth c cL_law RL 23) (hR : R.cells = mc ∧ R.slots = ms ∧ 11 ≤ R.frames ∧ 221 ≤ R.locals) (hret : ∀ (pc : Nat) (v : Int32) (hp : hpT) (cells slots : Nat) (lv : List (Nat × Value)), decode cL_law pc = .ok (.ireturn, 1) → rtZP Qp v hp → cells ≤ mc → slots ≤ ms → GL D cA h0 p l e R s m args below meth c 23 Q cells slots hp pc lv [.int v]) (hX : va_X b0 L xs s s.heap) (hbl : b0 < s.heap.size) (hbA : ¬ Af h0 b0) {K209 : Nat → Int32 → Nat → Int32 → Int32 → Nat → Int32 → hpT → (Int32 → hpT → Prop) → Prop} (hK209 : ∀ (a1 : Nat) (x2 : Int32) (a3 : Nat) (x4 : Int32) (x5 : Int32) (a6 : Nat) (x7 : Int32) (hp : hpT) (cells slots : Nat), K209 a1 x2 a3 x4 x5 a6 x7 hp Qp → cells + k0 ≤ mc → slots + s0 ≤ ms → GL D cA h0 p l e R s m args below meth c 23 Q cells slots hp 209 [(0, .ref b0), (1, .ref a1), (2, .int x2), (3, .ref a3), (4, .int x4), (5, .int x5), (6, .ref a6), (7, .int x7)] []) (hA209 : 0 ≤ k0 ∧ 0 ≤ s0) : ∀ (a1 : Nat) (x2 : Int32) (a3 : Nat) (x4 : Int32) (x5 : Int32) (a6 : Nat) (x7 : Int32) (x11 : Int32) (hp : hpT) (cells slots : Nat), P_L_law_b623 L xs K209 a1 x2 a3 x4 x5 a6 x7 x11 hp Qp → cells + (1679 + k0) ≤ mc → slots + (10649 + s0) ≤ ms → GL D cA h0 p l e R s m args below meth c 23 Q cells slots hp 623 [(0, .ref b0), (1, .ref a1), (2, .int x2), (3, .ref a3), (4, .int x4), (5, .int x5), (6, .ref a6), (7, .int x7), (11, .int x11)] [] := by
  intro a1 x2 a3 x4 x5 a6 x7 x11 hp cells slots h hc hs
  unfold P_L_law_b623 at h
  refine l_goto (pc := 623) (tgt := 1140) K dL_law_623 (by decide) ?_
  exact B_L_law_b1140 (k0 := k0) (s0 := s0) K hR hret hX hbl hbA hK209 ⟨by omega, by omega⟩  _ _ _ _ _ _ _ _ _ _ _ h (by omega) (by omega)
set_option maxRecDepth 100000 in
set_option maxHeartbeats 4000000 in
theorem B_L_law_b603 {R : Room} {mc ms : Nat} {k0 s0 : Nat} {Q : State → Prop} {Qp : Int32 → hpT → Prop} {b0 L : Nat} {xs : Nat → Int32} (K : Cx strL D cA h0 p l s m args meth c cL_law RL 23) (hR : R.cells = mc ∧ R.slots = ms ∧ 11 ≤ R.frames ∧ 221 ≤ R.locals) (hret : ∀ (pc : Nat) (v : Int32) (hp : hpT) (cells slots : Nat) (lv : List (Nat × Value)), decode cL_law pc = .ok (.ireturn, 1) → rtZP Qp v hp → cells ≤ mc → slots ≤ ms → GL D cA h0 p l e R s m args below meth c 23 Q cells slots hp pc lv [.int v]) (hX : va_X b0 L xs s s.heap) (hbl : b0 < s.heap.size) (hbA : ¬ Af h0 b0) {K209 : Nat → Int32 → Nat → Int32 → Int32 → Nat → Int32 → hpT → (Int32 → hpT → Prop) → Prop} (hK209 : ∀ (a1 : Nat) (x2 : Int32) (a3 : Nat) (x4 : Int32) (x5 : Int32) (a6 : Nat) (x7 : Int32) (hp : hpT) (cells slots : Nat), K209 a1 x2 a3 x4 x5 a6 x7 hp Qp → cells + k0 ≤ mc → slots + s0 ≤ ms → GL D cA h0 p l e R s m args below meth c 23 Q cells slots hp 209 [(0, .ref b0), (1, .ref a1), (2, .int x2), (3, .ref a3), (4, .int x4), (5, .int x5), (6, .ref a6), (7, .int x7)] []) (hA209 : 0 ≤ k0 ∧ 0 ≤ s0) : ∀ (a1 : Nat) (a3 : Nat) (x4 : Int32) (x5 : Int32) (a6 : Nat) (x7 : Int32) (x11 : Int32) (x12 : Int32) (x14 : Int32) (y15 : Int64) (xs0 : Int32) (hp : hpT) (cells slots : Nat), P_L_law_b603 L xs K209 a1 a3 x4 x5 a6 x7 x11 x12 x14 y15 xs0 hp Qp → cells + (1679 + k0) ≤ mc → slots + (10649 + s0) ≤ ms → GL D cA h0 p l e R s m args below meth c 23 Q cells slots hp 603 [(0, .ref b0), (1, .ref a1), (3, .ref a3), (4, .int x4), (5, .int x5), (6, .ref a6), (7, .int x7), (11, .int x11), (12, .int x12), (14, .int x14), (15, .long y15)] [.int xs0] := by
  intro a1 a3 x4 x5 a6 x7 x11 x12 x14 y15 xs0 hp cells slots h hc hs
  unfold P_L_law_b603 at h
  refine l_istore_n (pc := 603) (lv2 := [(2, .int xs0), (0, .ref b0), (1, .ref a1), (3, .ref a3), (4, .int x4), (5, .int x5), (6, .ref a6), (7, .int x7), (11, .int x11), (12, .int x12), (14, .int x14), (15, .long y15)]) K dL_law_603 (by decide) rfl ?_
  refine l_lload (pc := 604) K 11 dL_law_604 rfl ?_
  refine l_lconst (pc := 606) (v := 0) K dL_law_606 (by decide) ?_
  refine l_lc_lt (pc := 607) (tgt := 623) K dL_law_607 dL_law_608 (by decide) h (fun h => ?_) (fun h => ?_)
  · refine l_sub [1, 2, 0, 3, 4, 5, 6, 7, 8] rfl ?_
    exact B_L_law_b623 (k0 := k0) (s0 := s0) K hR hret hX hbl hbA hK209 ⟨by omega, by omega⟩  _ _ _ _ _ _ _ _ _ _ _ h (by omega) (by omega)
  · refine l_aload (pc := 611) K 6 dL_law_611 rfl ?_
    refine l_iconst (pc := 613) (v := 4) K dL_law_613 (by decide) ?_
    refine l_iload (pc := 614) K 8 dL_law_614 rfl ?_
    refine l_imul (pc := 616) K dL_law_616 ?_
    refine l_iload (pc := 617) K 9 dL_law_617 rfl ?_
    refine l_iadd (pc := 619) K dL_law_619 ?_
    refine l_iload (pc := 620) K 10 dL_law_620 rfl ?_
    refine l_iast (pc := 622) K dL_law_622 h (fun h29 h => ?_)
    refine l_sub [1, 2, 0, 3, 4, 5, 6, 7, 8] rfl ?_
    exact B_L_law_b623 (k0 := k0) (s0 := s0) K hR hret hX hbl hbA hK209 ⟨by omega, by omega⟩  _ _ _ _ _ _ _ _ _ _ _ h (by omega) (by omega)
set_option maxRecDepth 100000 in
set_option maxHeartbeats 4000000 in
theorem B_L_law_b594 {R : Room} {mc ms : Nat} {k0 s0 : Nat} {Q : State → Prop} {Qp : Int32 → hpT → Prop} {b0 L : Nat} {xs : Nat → Int32} (K : Cx strL D cA h0 p l s m args meth c cL_law RL 23) (hR : R.cells = mc ∧ R.slots = ms ∧ 11 ≤ R.frames ∧ 221 ≤ R.locals) (hret : ∀ (pc : Nat) (v : Int32) (hp : hpT) (cells slots : Nat) (lv : List (Nat × Value)), decode cL_law pc = .ok (.ireturn, 1) → rtZP Qp v hp → cells ≤ mc → slots ≤ ms → GL D cA h0 p l e R s m args below meth c 23 Q cells slots hp pc lv [.int v]) (hX : va_X b0 L xs s s.heap) (hbl : b0 < s.heap.size) (hbA : ¬ Af h0 b0) {K209 : Nat → Int32 → Nat → Int32 → Int32 → Nat → Int32 → hpT → (Int32 → hpT → Prop) → Prop} (hK209 : ∀ (a1 : Nat) (x2 : Int32) (a3 : Nat) (x4 : Int32) (x5 : Int32) (a6 : Nat) (x7 : Int32) (hp : hpT) (cells slots : Nat), K209 a1 x2 a3 x4 x5 a6 x7 hp Qp → cells + k0 ≤ mc → slots + s0 ≤ ms → GL D cA h0 p l e R s m args below meth c 23 Q cells slots hp 209 [(0, .ref b0), (1, .ref a1), (2, .int x2), (3, .ref a3), (4, .int x4), (5, .int x5), (6, .ref a6), (7, .int x7)] []) (hA209 : 0 ≤ k0 ∧ 0 ≤ s0) : ∀ (a1 : Nat) (a3 : Nat) (x4 : Int32) (x5 : Int32) (a6 : Nat) (x7 : Int32) (x11 : Int32) (x12 : Int32) (x14 : Int32) (y15 : Int64) (ys0 : Int64) (ys1 : Int64) (hp : hpT) (cells slots : Nat), P_L_law_b594 L xs K209 a1 a3 x4 x5 a6 x7 x11 x12 x14 y15 ys0 ys1 hp Qp → cells + (1679 + k0) ≤ mc → slots + (10649 + s0) ≤ ms → GL D cA h0 p l e R s m args below meth c 23 Q cells slots hp 594 [(0, .ref b0), (1, .ref a1), (3, .ref a3), (4, .int x4), (5, .int x5), (6, .ref a6), (7, .int x7), (11, .int x11), (12, .int x12), (14, .int x14), (15, .long y15)] [.long ys0, .long ys1] := by
  intro a1 a3 x4 x5 a6 x7 x11 x12 x14 y15 ys0 ys1 hp cells slots h hc hs
  unfold P_L_law_b594 at h
  refine l_lc_ne (pc := 594) (tgt := 602) K dL_law_594 dL_law_595 (by decide) h (fun h => ?_) (fun h => ?_)
  · refine l_iconst (pc := 602) (v := 0) K dL_law_602 (by decide) ?_
    exact B_L_law_b603 (k0 := k0) (s0 := s0) K hR hret hX hbl hbA hK209 ⟨by omega, by omega⟩  _ _ _ _ _ _ _ _ _ _ _ _ _ _ h (by omega) (by omega)
  · refine l_iconst (pc := 598) (v := 1) K dL_law_598 (by decide) ?_
    refine l_goto (pc := 599) (tgt := 603) K dL_law_599 (by decide) ?_
    exact B_L_law_b603 (k0 := k0) (s0 := s0) K hR hret hX hbl hbA hK209 ⟨by omega, by omega⟩  _ _ _ _ _ _ _ _ _ _ _ _ _ _ h (by omega) (by omega)
set_option maxRecDepth 100000 in
set_option maxHeartbeats 4000000 in
theorem B_L_law_b591 {R : Room} {mc ms : Nat} {k0 s0 : Nat} {Q : State → Prop} {Qp : Int32 → hpT → Prop} {b0 L : Nat} {xs : Nat → Int32} (K : Cx strL D cA h0 p l s m args meth c cL_law RL 23) (hR : R.cells = mc ∧ R.slots = ms ∧ 11 ≤ R.frames ∧ 221 ≤ R.locals) (hret : ∀ (pc : Nat) (v : Int32) (hp : hpT) (cells slots : Nat) (lv : List (Nat × Value)), decode cL_law pc = .ok (.ireturn, 1) → rtZP Qp v hp → cells ≤ mc → slots ≤ ms → GL D cA h0 p l e R s m args below meth c 23 Q cells slots hp pc lv [.int v]) (hX : va_X b0 L xs s s.heap) (hbl : b0 < s.heap.size) (hbA : ¬ Af h0 b0) {K209 : Nat → Int32 → Nat → Int32 → Int32 → Nat → Int32 → hpT → (Int32 → hpT → Prop) → Prop} (hK209 : ∀ (a1 : Nat) (x2 : Int32) (a3 : Nat) (x4 : Int32) (x5 : Int32) (a6 : Nat) (x7 : Int32) (hp : hpT) (cells slots : Nat), K209 a1 x2 a3 x4 x5 a6 x7 hp Qp → cells + k0 ≤ mc → slots + s0 ≤ ms → GL D cA h0 p l e R s m args below meth c 23 Q cells slots hp 209 [(0, .ref b0), (1, .ref a1), (2, .int x2), (3, .ref a3), (4, .int x4), (5, .int x5), (6, .ref a6), (7, .int x7)] []) (hA209 : 0 ≤ k0 ∧ 0 ≤ s0) : ∀ (a1 : Nat) (a3 : Nat) (x4 : Int32) (x5 : Int32) (a6 : Nat) (x7 : Int32) (x11 : Int32) (x12 : Int32) (x14 : Int32) (y15 : Int64) (ys0 : Int64) (hp : hpT) (cells slots : Nat), P_L_law_b591 L xs K209 a1 a3 x4 x5 a6 x7 x11 x12 x14 y15 ys0 hp Qp → cells + (1679 + k0) ≤ mc → slots + (10649 + s0) ≤ ms → GL D cA h0 p l e R s m args below meth c 23 Q cells slots hp 591 [(0, .ref b0), (1, .ref a1), (3, .ref a3), (4, .int x4), (5, .int x5), (6, .ref a6), (7, .int x7), (11, .int x11), (12, .int x12), (14, .int x14), (15, .long y15)] [.long ys0] := by
  intro a1 a3 x4 x5 a6 x7 x11 x12 x14 y15 ys0 hp cells slots h hc hs
  unfold P_L_law_b591 at h
  refine l_ldc2 (pc := 591) (v := (-9000000000000000003)) K dL_law_591 kl_21 ?_
  exact B_L_law_b594 (k0 := k0) (s0 := s0) K hR hret hX hbl hbA hK209 ⟨by omega, by omega⟩  _ _ _ _ _ _ _ _ _ _ _ _ _ _ _ h (by omega) (by omega)
set_option maxRecDepth 100000 in
set_option maxHeartbeats 4000000 in
theorem B_L_law_b541 {R : Room} {mc ms : Nat} {k0 s0 : Nat} {Q : State → Prop} {Qp : Int32 → hpT → Prop} {b0 L : Nat} {xs : Nat → Int32} (K : Cx strL D cA h0 p l s m args meth c cL_law RL 23) (hR : R.cells = mc ∧ R.slots = ms ∧ 11 ≤ R.frames ∧ 221 ≤ R.locals) (hret : ∀ (pc : Nat) (v : Int32) (hp : hpT) (cells slots : Nat) (lv : List (Nat × Value)), decode cL_law pc = .ok (.ireturn, 1) → rtZP Qp v hp → cells ≤ mc → slots ≤ ms → GL D cA h0 p l e R s m args below meth c 23 Q cells slots hp pc lv [.int v]) (hX : va_X b0 L xs s s.heap) (hbl : b0 < s.heap.size) (hbA : ¬ Af h0 b0) {K209 : Nat → Int32 → Nat → Int32 → Int32 → Nat → Int32 → hpT → (Int32 → hpT → Prop) → Prop} (hK209 : ∀ (a1 : Nat) (x2 : Int32) (a3 : Nat) (x4 : Int32) (x5 : Int32) (a6 : Nat) (x7 : Int32) (hp : hpT) (cells slots : Nat), K209 a1 x2 a3 x4 x5 a6 x7 hp Qp → cells + k0 ≤ mc → slots + s0 ≤ ms → GL D cA h0 p l e R s m args below meth c 23 Q cells slots hp 209 [(0, .ref b0), (1, .ref a1), (2, .int x2), (3, .ref a3), (4, .int x4), (5, .int x5), (6, .ref a6), (7, .int x7)] []) (hA209 : 0 ≤ k0 ∧ 0 ≤ s0) : ∀ (a1 : Nat) (a3 : Nat) (x4 : Int32) (x5 : Int32) (a6 : Nat) (x7 : Int32) (x9 : Int32) (x11 : Int32) (x12 : Int32) (xs0 : Int32) (hp : hpT) (cells slots : Nat), P_L_law_b541 L xs K209 a1 a3 x4 x5 a6 x7 x9 x11 x12 xs0 hp Qp → cells + (1685 + k0) ≤ mc → slots + (10700 + s0) ≤ ms → GL D cA h0 p l e R s m args below meth c 23 Q cells slots hp 541 [(0, .ref b0), (1, .ref a1), (3, .ref a3), (4, .int x4), (5, .int x5), (6, .ref a6), (7, .int x7), (9, .int x9), (11, .int x11), (12, .int x12)] [.int xs0] := by
  intro a1 a3 x4 x5 a6 x7 x9 x11 x12 xs0 hp cells slots h hc hs
  unfold P_L_law_b541 at h
  refine l_istore (pc := 541) (lv2 := [(13, .int xs0), (0, .ref b0), (1, .ref a1), (3, .ref a3), (4, .int x4), (5, .int x5), (6, .ref a6), (7, .int x7), (9, .int x9), (11, .int x11), (12, .int x12)]) K dL_law_541 (by decide) rfl ?_
  refine l_iconst (pc := 543) (v := 1) K dL_law_543 (by decide) ?_
  refine l_iload (pc := 544) K 8 dL_law_544 rfl ?_
  refine l_bipush (pc := 546) (v := 16) K dL_law_546 (by decide) ?_
  refine l_idiv (pc := 548) K dL_law_548 h (fun h => ?_)
  refine l_bipush (pc := 549) (v := 30) K dL_law_549 (by decide) ?_
  refine l_irem (pc := 551) K dL_law_551 h (fun h => ?_)
  refine l_iadd (pc := 552) K dL_law_552 ?_
  refine l_istore (pc := 553) (lv2 := [(14, .int (1 + (irm (x9 / 16) 30))), (13, .int xs0), (0, .ref b0), (1, .ref a1), (3, .ref a3), (4, .int x4), (5, .int x5), (6, .ref a6), (7, .int x7), (9, .int x9), (11, .int x11), (12, .int x12)]) K dL_law_553 (by decide) rfl ?_
  refine l_aload_n (pc := 555) K 3 dL_law_555 rfl ?_
  refine l_iload (pc := 556) K 10 dL_law_556 rfl ?_
  refine l_iconst (pc := 558) (v := 1) K dL_law_558 (by decide) ?_
  refine l_iload (pc := 559) K 9 dL_law_559 rfl ?_
  refine l_bipush (pc := 561) (v := 6) K dL_law_561 (by decide) ?_
  refine l_irem (pc := 563) K dL_law_563 h (fun h => ?_)
  refine l_iadd (pc := 564) K dL_law_564 ?_
  refine l_iload (pc := 565) K 0 dL_law_565 rfl ?_
  refine lW_long (pc := 567) (st := []) (As := [.ref a1, .int x11, .int (1 + (irm x9 6)), .int (1 + (irm (x9 / 16) 30))]) K (M_L_wall K.2.2.2.2.2.2.1 _ _ _ _ _ _ h) dL_law_567 cw_L_wall cs_L_wall lw_RL_115 rfl rfl ⟨Nat.le_trans (by decide) hR.2.2.1, Nat.le_trans (by decide) hR.2.2.2⟩ rfl rfl (Nat.le_of_ble_eq_true rfl) (by rw [hR.1]; omega) (by rw [hR.2.1]; omega) (fun v30 h30 h => ?_)
  refine l_lstore (pc := 570) (lv2 := [(15, .long v30), (14, .int (1 + (irm (x9 / 16) 30))), (13, .int xs0), (0, .ref b0), (1, .ref a1), (3, .ref a3), (4, .int x4), (5, .int x5), (6, .ref a6), (7, .int x7), (9, .int x9), (11, .int x11), (12, .int x12)]) K dL_law_570 (by decide) rfl ?_
  refine l_lload (pc := 572) K 0 dL_law_572 rfl ?_
  refine l_iload (pc := 574) K 2 dL_law_574 rfl ?_
  refine l_if_eq (pc := 576) (tgt := 591) K dL_law_576 (by decide) h (fun h => ?_) (fun h => ?_)
  · refine l_sub [3, 4, 5, 6, 7, 8, 9, 11, 12, 1, 0] rfl ?_
    exact B_L_law_b591 (k0 := k0) (s0 := s0) K hR hret hX hbl hbA hK209 ⟨by omega, by omega⟩  _ _ _ _ _ _ _ _ _ _ _ _ _ _ h (by omega) (by omega)
  · refine l_iload (pc := 579) K 12 dL_law_579 rfl ?_
    refine l_iconst (pc := 581) (v := 4) K dL_law_581 (by decide) ?_
    refine l_icmp_ge (pc := 582) (tgt := 591) K dL_law_582 (by decide) h (fun h => ?_) (fun h => ?_)
    · refine l_sub [3, 4, 5, 6, 7, 8, 9, 11, 12, 1, 0] rfl ?_
      exact B_L_law_b591 (k0 := k0) (s0 := s0) K hR hret hX hbl hbA hK209 ⟨by omega, by omega⟩  _ _ _ _ _ _ _ _ _ _ _ _ _ _ h (by omega) (by omega)
    · refine l_iload (pc := 585) K 12 dL_law_585 rfl ?_
      refine l_i2l (pc := 587) K dL_law_587 ?_
      refine l_goto (pc := 588) (tgt := 594) K dL_law_588 (by decide) ?_
      refine l_sub [3, 4, 5, 6, 7, 8, 9, 11, 12, 1, 0] rfl ?_
      exact B_L_law_b594 (k0 := k0) (s0 := s0) K hR hret hX hbl hbA hK209 ⟨by omega, by omega⟩  _ _ _ _ _ _ _ _ _ _ _ _ _ _ _ h (by omega) (by omega)
set_option maxRecDepth 100000 in
set_option maxHeartbeats 4000000 in
theorem B_L_law_b773 {R : Room} {mc ms : Nat} {k0 s0 : Nat} {Q : State → Prop} {Qp : Int32 → hpT → Prop} {b0 L : Nat} {xs : Nat → Int32} (K : Cx strL D cA h0 p l s m args meth c cL_law RL 23) (hR : R.cells = mc ∧ R.slots = ms ∧ 11 ≤ R.frames ∧ 221 ≤ R.locals) (hret : ∀ (pc : Nat) (v : Int32) (hp : hpT) (cells slots : Nat) (lv : List (Nat × Value)), decode cL_law pc = .ok (.ireturn, 1) → rtZP Qp v hp → cells ≤ mc → slots ≤ ms → GL D cA h0 p l e R s m args below meth c 23 Q cells slots hp pc lv [.int v]) (hX : va_X b0 L xs s s.heap) (hbl : b0 < s.heap.size) (hbA : ¬ Af h0 b0) {K209 : Nat → Int32 → Nat → Int32 → Int32 → Nat → Int32 → hpT → (Int32 → hpT → Prop) → Prop} (hK209 : ∀ (a1 : Nat) (x2 : Int32) (a3 : Nat) (x4 : Int32) (x5 : Int32) (a6 : Nat) (x7 : Int32) (hp : hpT) (cells slots : Nat), K209 a1 x2 a3 x4 x5 a6 x7 hp Qp → cells + k0 ≤ mc → slots + s0 ≤ ms → GL D cA h0 p l e R s m args below meth c 23 Q cells slots hp 209 [(0, .ref b0), (1, .ref a1), (2, .int x2), (3, .ref a3), (4, .int x4), (5, .int x5), (6, .ref a6), (7, .int x7)] []) (hA209 : 0 ≤ k0 ∧ 0 ≤ s0) : ∀ (a1 : Nat) (a3 : Nat) (x4 : Int32) (x5 : Int32) (a6 : Nat) (x7 : Int32) (x11 : Int32) (xs0 : Int32) (hp : hpT) (cells slots : Nat), P_L_law_b773 L xs K209 a1 a3 x4 x5 a6 x7 x11 xs0 hp Qp → cells + (1679 + k0) ≤ mc → slots + (10649 + s0) ≤ ms → GL D cA h0 p l e R s m args below meth c 23 Q cells slots hp 773 [(0, .ref b0), (1, .ref a1), (3, .ref a3), (4, .int x4), (5, .int x5), (6, .ref a6), (7, .int x7), (11, .int x11)] [.int xs0] := by
  intro a1 a3 x4 x5 a6 x7 x11 xs0 hp cells slots h hc hs
  unfold P_L_law_b773 at h
  refine l_istore_n (pc := 773) (lv2 := [(2, .int xs0), (0, .ref b0), (1, .ref a1), (3, .ref a3), (4, .int x4), (5, .int x5), (6, .ref a6), (7, .int x7), (11, .int x11)]) K dL_law_773 (by decide) rfl ?_
  refine l_goto (pc := 774) (tgt := 1140) K dL_law_774 (by decide) ?_
  refine l_sub [1, 2, 0, 3, 4, 5, 6, 7, 8] rfl ?_
  exact B_L_law_b1140 (k0 := k0) (s0 := s0) K hR hret hX hbl hbA hK209 ⟨by omega, by omega⟩  _ _ _ _ _ _ _ _ _ _ _ h (by omega) (by omega)
set_option maxRecDepth 100000 in
set_option maxHeartbeats 4000000 in
theorem B_L_law_b772 {R : Room} {mc ms : Nat} {k0 s0 : Nat} {Q : State → Prop} {Qp : Int32 → hpT → Prop} {b0 L : Nat} {xs : Nat → Int32} (K : Cx strL D cA h0 p l s m args meth c cL_law RL 23) (hR : R.cells = mc ∧ R.slots = ms ∧ 11 ≤ R.frames ∧ 221 ≤ R.locals) (hret : ∀ (pc : Nat) (v : Int32) (hp : hpT) (cells slots : Nat) (lv : List (Nat × Value)), decode cL_law pc = .ok (.ireturn, 1) → rtZP Qp v hp → cells ≤ mc → slots ≤ ms → GL D cA h0 p l e R s m args below meth c 23 Q cells slots hp pc lv [.int v]) (hX : va_X b0 L xs s s.heap) (hbl : b0 < s.heap.size) (hbA : ¬ Af h0 b0) {K209 : Nat → Int32 → Nat → Int32 → Int32 → Nat → Int32 → hpT → (Int32 → hpT → Prop) → Prop} (hK209 : ∀ (a1 : Nat) (x2 : Int32) (a3 : Nat) (x4 : Int32) (x5 : Int32) (a6 : Nat) (x7 : Int32) (hp : hpT) (cells slots : Nat), K209 a1 x2 a3 x4 x5 a6 x7 hp Qp → cells + k0 ≤ mc → slots + s0 ≤ ms → GL D cA h0 p l e R s m args below meth c 23 Q cells slots hp 209 [(0, .ref b0), (1, .ref a1), (2, .int x2), (3, .ref a3), (4, .int x4), (5, .int x5), (6, .ref a6), (7, .int x7)] []) (hA209 : 0 ≤ k0 ∧ 0 ≤ s0) : ∀ (a1 : Nat) (a3 : Nat) (x4 : Int32) (x5 : Int32) (a6 : Nat) (x7 : Int32) (x11 : Int32) (hp : hpT) (cells slots : Nat), P_L_law_b772 L xs K209 a1 a3 x4 x5 a6 x7 x11 hp Qp → cells + (1679 + k0) ≤ mc → slots + (10649 + s0) ≤ ms → GL D cA h0 p l e R s m args below meth c 23 Q cells slots hp 772 [(0, .ref b0), (1, .ref a1), (3, .ref a3), (4, .int x4), (5, .int x5), (6, .ref a6), (7, .int x7), (11, .int x11)] [] := by
  intro a1 a3 x4 x5 a6 x7 x11 hp cells slots h hc hs
  unfold P_L_law_b772 at h
  refine l_iconst (pc := 772) (v := 0) K dL_law_772 (by decide) ?_
  exact B_L_law_b773 (k0 := k0) (s0 := s0) K hR hret hX hbl hbA hK209 ⟨by omega, by omega⟩  _ _ _ _ _ _ _ _ _ _ _ h (by omega) (by omega)
set_option maxRecDepth 100000 in
set_option maxHeartbeats 4000000 in
theorem B_L_law_b662 {R : Room} {mc ms : Nat} {k0 s0 : Nat} {Q : State → Prop} {Qp : Int32 → hpT → Prop} {b0 L : Nat} {xs : Nat → Int32} (K : Cx strL D cA h0 p l s m args meth c cL_law RL 23) (hR : R.cells = mc ∧ R.slots = ms ∧ 11 ≤ R.frames ∧ 221 ≤ R.locals) (hret : ∀ (pc : Nat) (v : Int32) (hp : hpT) (cells slots : Nat) (lv : List (Nat × Value)), decode cL_law pc = .ok (.ireturn, 1) → rtZP Qp v hp → cells ≤ mc → slots ≤ ms → GL D cA h0 p l e R s m args below meth c 23 Q cells slots hp pc lv [.int v]) (hX : va_X b0 L xs s s.heap) (hbl : b0 < s.heap.size) (hbA : ¬ Af h0 b0) {K209 : Nat → Int32 → Nat → Int32 → Int32 → Nat → Int32 → hpT → (Int32 → hpT → Prop) → Prop} (hK209 : ∀ (a1 : Nat) (x2 : Int32) (a3 : Nat) (x4 : Int32) (x5 : Int32) (a6 : Nat) (x7 : Int32) (hp : hpT) (cells slots : Nat), K209 a1 x2 a3 x4 x5 a6 x7 hp Qp → cells + k0 ≤ mc → slots + s0 ≤ ms → GL D cA h0 p l e R s m args below meth c 23 Q cells slots hp 209 [(0, .ref b0), (1, .ref a1), (2, .int x2), (3, .ref a3), (4, .int x4), (5, .int x5), (6, .ref a6), (7, .int x7)] []) (hA209 : 0 ≤ k0 ∧ 0 ≤ s0) : ∀ (a1 : Nat) (a3 : Nat) (x4 : Int32) (x5 : Int32) (a6 : Nat) (x7 : Int32) (x11 : Int32) (x12 : Int32) (xs0 : Int32) (hp : hpT) (cells slots : Nat), P_L_law_b662 L xs K209 a1 a3 x4 x5 a6 x7 x11 x12 xs0 hp Qp → cells + (1690 + k0) ≤ mc → slots + (10715 + s0) ≤ ms → GL D cA h0 p l e R s m args below meth c 23 Q cells slots hp 662 [(0, .ref b0), (1, .ref a1), (3, .ref a3), (4, .int x4), (5, .int x5), (6, .ref a6), (7, .int x7), (11, .int x11), (12, .int x12)] [.int xs0] := by
  intro a1 a3 x4 x5 a6 x7 x11 x12 xs0 hp cells slots h hc hs
  unfold P_L_law_b662 at h
  refine l_istore (pc := 662) (lv2 := [(13, .int xs0), (0, .ref b0), (1, .ref a1), (3, .ref a3), (4, .int x4), (5, .int x5), (6, .ref a6), (7, .int x7), (11, .int x11), (12, .int x12)]) K dL_law_662 (by decide) rfl ?_
  refine l_aload_n (pc := 664) K 2 dL_law_664 rfl ?_
  refine l_iload (pc := 665) K 9 dL_law_665 rfl ?_
  refine l_iconst (pc := 667) (v := 2) K dL_law_667 (by decide) ?_
  refine lW_long (pc := 668) (st := []) (As := [.ref a1, .int x12, .int 2]) K (M_L_lotOf K.2.2.2.2.2.2.1 _ _ _ _ _ h) dL_law_668 cw_L_lotOf cs_L_lotOf lw_RL_99 rfl rfl ⟨Nat.le_trans (by decide) hR.2.2.1, Nat.le_trans (by decide) hR.2.2.2⟩ rfl rfl (Nat.le_of_ble_eq_true rfl) (by rw [hR.1]; omega) (by rw [hR.2.1]; omega) (fun v31 h31 h => ?_)
  refine l_lstore (pc := 671) (lv2 := [(14, .long v31), (13, .int xs0), (0, .ref b0), (1, .ref a1), (3, .ref a3), (4, .int x4), (5, .int x5), (6, .ref a6), (7, .int x7), (11, .int x11), (12, .int x12)]) K dL_law_671 (by decide) rfl ?_
  refine l_aload_n (pc := 673) K 3 dL_law_673 rfl ?_
  refine l_iload (pc := 674) K 9 dL_law_674 rfl ?_
  refine l_iload (pc := 676) K 10 dL_law_676 rfl ?_
  refine lW_long (pc := 678) (st := []) (As := [.ref a1, .int x11, .int x12]) K (M_L_hang K.2.2.2.2.2.2.1 _ _ _ _ _ h) dL_law_678 cw_L_hang cs_L_hang lw_RL_117 rfl rfl ⟨Nat.le_trans (by decide) hR.2.2.1, Nat.le_trans (by decide) hR.2.2.2⟩ rfl rfl (Nat.le_of_ble_eq_true rfl) (by rw [hR.1]; omega) (by rw [hR.2.1]; omega) (fun v32 h32 h => ?_)
  refine l_lstore (pc := 681) (lv2 := [(16, .long v32), (14, .long v31), (13, .int xs0), (0, .ref b0), (1, .ref a1), (3, .ref a3), (4, .int x4), (5, .int x5), (6, .ref a6), (7, .int x7), (11, .int x11), (12, .int x12)]) K dL_law_681 (by decide) rfl ?_
  refine l_lload (pc := 683) K 0 dL_law_683 rfl ?_
  refine l_ldc2 (pc := 685) (v := (-9000000000000000003)) K dL_law_685 kl_21 ?_
  refine l_lc_ne (pc := 688) (tgt := 713) K dL_law_688 dL_law_689 (by decide) h (fun h => ?_) (fun h => ?_)
  · refine l_iload (pc := 713) K 2 dL_law_713 rfl ?_
    refine l_if_eq (pc := 715) (tgt := 772) K dL_law_715 (by decide) h (fun h => ?_) (fun h => ?_)
    · refine l_sub [3, 4, 5, 6, 7, 8, 9, 10] rfl ?_
      exact B_L_law_b772 (k0 := k0) (s0 := s0) K hR hret hX hbl hbA hK209 ⟨by omega, by omega⟩  _ _ _ _ _ _ _ _ _ _ h (by omega) (by omega)
    · refine l_lload (pc := 718) K 0 dL_law_718 rfl ?_
      refine l_lconst (pc := 720) (v := 1) K dL_law_720 (by decide) ?_
      refine l_lc_lt (pc := 721) (tgt := 772) K dL_law_721 dL_law_722 (by decide) h (fun h => ?_) (fun h => ?_)
      · refine l_sub [3, 4, 5, 6, 7, 8, 9, 10] rfl ?_
        exact B_L_law_b772 (k0 := k0) (s0 := s0) K hR hret hX hbl hbA hK209 ⟨by omega, by omega⟩  _ _ _ _ _ _ _ _ _ _ h (by omega) (by omega)
      · refine l_aload_n (pc := 725) K 4 dL_law_725 rfl ?_
        refine l_iload (pc := 726) K 11 dL_law_726 rfl ?_
        refine l_iconst (pc := 728) (v := 2) K dL_law_728 (by decide) ?_
        refine lW_long (pc := 729) (st := []) (As := [.ref a1, .int x12, .int 2]) K (M_L_lotOf K.2.2.2.2.2.2.1 _ _ _ _ _ h) dL_law_729 cw_L_lotOf cs_L_lotOf lw_RL_99 rfl rfl ⟨Nat.le_trans (by decide) hR.2.2.1, Nat.le_trans (by decide) hR.2.2.2⟩ rfl rfl (Nat.le_of_ble_eq_true rfl) (by rw [hR.1]; omega) (by rw [hR.2.1]; omega) (fun v33 h33 h => ?_)
        refine l_lload (pc := 732) K 1 dL_law_732 rfl ?_
        refine l_lload (pc := 734) K 0 dL_law_734 rfl ?_
        refine l_lsub (pc := 736) K dL_law_736 ?_
        refine l_lc_ne (pc := 737) (tgt := 772) K dL_law_737 dL_law_738 (by decide) h (fun h => ?_) (fun h => ?_)
        · refine l_sub [3, 4, 5, 6, 7, 8, 9, 10] rfl ?_
          exact B_L_law_b772 (k0 := k0) (s0 := s0) K hR hret hX hbl hbA hK209 ⟨by omega, by omega⟩  _ _ _ _ _ _ _ _ _ _ h (by omega) (by omega)
        · refine l_aload_n (pc := 741) K 4 dL_law_741 rfl ?_
          refine l_iload (pc := 742) K 10 dL_law_742 rfl ?_
          refine l_iconst (pc := 744) (v := 4) K dL_law_744 (by decide) ?_
          refine lW_long (pc := 745) (st := []) (As := [.ref a1, .int x11, .int 4]) K (M_L_room K.2.2.2.2.2.2.1 _ _ _ _ _ h) dL_law_745 cw_L_room cs_L_room lw_RL_85 rfl rfl ⟨Nat.le_trans (by decide) hR.2.2.1, Nat.le_trans (by decide) hR.2.2.2⟩ rfl rfl (Nat.le_of_ble_eq_true rfl) (by rw [hR.1]; omega) (by rw [hR.2.1]; omega) (fun v34 h34 h => ?_)
          refine l_lload (pc := 748) K 0 dL_law_748 rfl ?_
          refine l_lc_ne (pc := 750) (tgt := 772) K dL_law_750 dL_law_751 (by decide) h (fun h => ?_) (fun h => ?_)
          · refine l_sub [3, 4, 5, 6, 7, 8, 9, 10] rfl ?_
            exact B_L_law_b772 (k0 := k0) (s0 := s0) K hR hret hX hbl hbA hK209 ⟨by omega, by omega⟩  _ _ _ _ _ _ _ _ _ _ h (by omega) (by omega)
          · refine l_aload_n (pc := 754) K 4 dL_law_754 rfl ?_
            refine l_iload (pc := 755) K 10 dL_law_755 rfl ?_
            refine l_iconst (pc := 757) (v := 2) K dL_law_757 (by decide) ?_
            refine lW_long (pc := 758) (st := []) (As := [.ref a1, .int x11, .int 2]) K (M_L_room K.2.2.2.2.2.2.1 _ _ _ _ _ h) dL_law_758 cw_L_room cs_L_room lw_RL_85 rfl rfl ⟨Nat.le_trans (by decide) hR.2.2.1, Nat.le_trans (by decide) hR.2.2.2⟩ rfl rfl (Nat.le_of_ble_eq_true rfl) (by rw [hR.1]; omega) (by rw [hR.2.1]; omega) (fun v35 h35 h => ?_)
            refine l_iload (pc := 761) K 11 dL_law_761 rfl ?_
            refine l_i2l (pc := 763) K dL_law_763 ?_
            refine l_lc_ne (pc := 764) (tgt := 772) K dL_law_764 dL_law_765 (by decide) h (fun h => ?_) (fun h => ?_)
            · refine l_sub [3, 4, 5, 6, 7, 8, 9, 10] rfl ?_
              exact B_L_law_b772 (k0 := k0) (s0 := s0) K hR hret hX hbl hbA hK209 ⟨by omega, by omega⟩  _ _ _ _ _ _ _ _ _ _ h (by omega) (by omega)
            · refine l_iconst (pc := 768) (v := 1) K dL_law_768 (by decide) ?_
              refine l_goto (pc := 769) (tgt := 773) K dL_law_769 (by decide) ?_
              refine l_sub [3, 4, 5, 6, 7, 8, 9, 10] rfl ?_
              exact B_L_law_b773 (k0 := k0) (s0 := s0) K hR hret hX hbl hbA hK209 ⟨by omega, by omega⟩  _ _ _ _ _ _ _ _ _ _ _ h (by omega) (by omega)
  · refine l_aload_n (pc := 692) K 4 dL_law_692 rfl ?_
    refine l_iload (pc := 693) K 11 dL_law_693 rfl ?_
    refine l_iconst (pc := 695) (v := 2) K dL_law_695 (by decide) ?_
    refine lW_long (pc := 696) (st := []) (As := [.ref a1, .int x12, .int 2]) K (M_L_lotOf K.2.2.2.2.2.2.1 _ _ _ _ _ h) dL_law_696 cw_L_lotOf cs_L_lotOf lw_RL_99 rfl rfl ⟨Nat.le_trans (by decide) hR.2.2.1, Nat.le_trans (by decide) hR.2.2.2⟩ rfl rfl (Nat.le_of_ble_eq_true rfl) (by rw [hR.1]; omega) (by rw [hR.2.1]; omega) (fun v36 h36 h => ?_)
    refine l_lload (pc := 699) K 1 dL_law_699 rfl ?_
    refine l_lc_ne (pc := 701) (tgt := 709) K dL_law_701 dL_law_702 (by decide) h (fun h => ?_) (fun h => ?_)
    · refine l_iconst (pc := 709) (v := 0) K dL_law_709 (by decide) ?_
      refine l_goto (pc := 710) (tgt := 773) K dL_law_710 (by decide) ?_
      refine l_sub [3, 4, 5, 6, 7, 8, 9, 10] rfl ?_
      exact B_L_law_b773 (k0 := k0) (s0 := s0) K hR hret hX hbl hbA hK209 ⟨by omega, by omega⟩  _ _ _ _ _ _ _ _ _ _ _ h (by omega) (by omega)
    · refine l_iconst (pc := 705) (v := 1) K dL_law_705 (by decide) ?_
      refine l_goto (pc := 706) (tgt := 773) K dL_law_706 (by decide) ?_
      refine l_sub [3, 4, 5, 6, 7, 8, 9, 10] rfl ?_
      exact B_L_law_b773 (k0 := k0) (s0 := s0) K hR hret hX hbl hbA hK209 ⟨by omega, by omega⟩  _ _ _ _ _ _ _ _ _ _ _ h (by omega) (by omega)
set_option maxRecDepth 100000 in
set_option maxHeartbeats 4000000 in
theorem B_L_law_b1021 {R : Room} {mc ms : Nat} {k0 s0 : Nat} {Q : State → Prop} {Qp : Int32 → hpT → Prop} {b0 L : Nat} {xs : Nat → Int32} (K : Cx strL D cA h0 p l s m args meth c cL_law RL 23) (hR : R.cells = mc ∧ R.slots = ms ∧ 11 ≤ R.frames ∧ 221 ≤ R.locals) (hret : ∀ (pc : Nat) (v : Int32) (hp : hpT) (cells slots : Nat) (lv : List (Nat × Value)), decode cL_law pc = .ok (.ireturn, 1) → rtZP Qp v hp → cells ≤ mc → slots ≤ ms → GL D cA h0 p l e R s m args below meth c 23 Q cells slots hp pc lv [.int v]) (hX : va_X b0 L xs s s.heap) (hbl : b0 < s.heap.size) (hbA : ¬ Af h0 b0) {K209 : Nat → Int32 → Nat → Int32 → Int32 → Nat → Int32 → hpT → (Int32 → hpT → Prop) → Prop} (hK209 : ∀ (a1 : Nat) (x2 : Int32) (a3 : Nat) (x4 : Int32) (x5 : Int32) (a6 : Nat) (x7 : Int32) (hp : hpT) (cells slots : Nat), K209 a1 x2 a3 x4 x5 a6 x7 hp Qp → cells + k0 ≤ mc → slots + s0 ≤ ms → GL D cA h0 p l e R s m args below meth c 23 Q cells slots hp 209 [(0, .ref b0), (1, .ref a1), (2, .int x2), (3, .ref a3), (4, .int x4), (5, .int x5), (6, .ref a6), (7, .int x7)] []) (hA209 : 0 ≤ k0 ∧ 0 ≤ s0) : ∀ (a1 : Nat) (a3 : Nat) (x4 : Int32) (x5 : Int32) (a6 : Nat) (x7 : Int32) (x11 : Int32) (xs0 : Int32) (hp : hpT) (cells slots : Nat), P_L_law_b1021 L xs K209 a1 a3 x4 x5 a6 x7 x11 xs0 hp Qp → cells + (1679 + k0) ≤ mc → slots + (10649 + s0) ≤ ms → GL D cA h0 p l e R s m args below meth c 23 Q cells slots hp 1021 [(0, .ref b0), (1, .ref a1), (3, .ref a3), (4, .int x4), (5, .int x5), (6, .ref a6), (7, .int x7), (11, .int x11)] [.int xs0] := by
  intro a1 a3 x4 x5 a6 x7 x11 xs0 hp cells slots h hc hs
  unfold P_L_law_b1021 at h
  refine l_istore_n (pc := 1021) (lv2 := [(2, .int xs0), (0, .ref b0), (1, .ref a1), (3, .ref a3), (4, .int x4), (5, .int x5), (6, .ref a6), (7, .int x7), (11, .int x11)]) K dL_law_1021 (by decide) rfl ?_
  refine l_goto (pc := 1022) (tgt := 1140) K dL_law_1022 (by decide) ?_
  refine l_sub [1, 2, 0, 3, 4, 5, 6, 7, 8] rfl ?_
  exact B_L_law_b1140 (k0 := k0) (s0 := s0) K hR hret hX hbl hbA hK209 ⟨by omega, by omega⟩  _ _ _ _ _ _ _ _ _ _ _ h (by omega) (by omega)
set_option maxRecDepth 100000 in
set_option maxHeartbeats 4000000 in
theorem B_L_law_b1016 {R : Room} {mc ms : Nat} {k0 s0 : Nat} {Q : State → Prop} {Qp : Int32 → hpT → Prop} {b0 L : Nat} {xs : Nat → Int32} (K : Cx strL D cA h0 p l s m args meth c cL_law RL 23) (hR : R.cells = mc ∧ R.slots = ms ∧ 11 ≤ R.frames ∧ 221 ≤ R.locals) (hret : ∀ (pc : Nat) (v : Int32) (hp : hpT) (cells slots : Nat) (lv : List (Nat × Value)), decode cL_law pc = .ok (.ireturn, 1) → rtZP Qp v hp → cells ≤ mc → slots ≤ ms → GL D cA h0 p l e R s m args below meth c 23 Q cells slots hp pc lv [.int v]) (hX : va_X b0 L xs s s.heap) (hbl : b0 < s.heap.size) (hbA : ¬ Af h0 b0) {K209 : Nat → Int32 → Nat → Int32 → Int32 → Nat → Int32 → hpT → (Int32 → hpT → Prop) → Prop} (hK209 : ∀ (a1 : Nat) (x2 : Int32) (a3 : Nat) (x4 : Int32) (x5 : Int32) (a6 : Nat) (x7 : Int32) (hp : hpT) (cells slots : Nat), K209 a1 x2 a3 x4 x5 a6 x7 hp Qp → cells + k0 ≤ mc → slots + s0 ≤ ms → GL D cA h0 p l e R s m args below meth c 23 Q cells slots hp 209 [(0, .ref b0), (1, .ref a1), (2, .int x2), (3, .ref a3), (4, .int x4), (5, .int x5), (6, .ref a6), (7, .int x7)] []) (hA209 : 0 ≤ k0 ∧ 0 ≤ s0) : ∀ (a1 : Nat) (a3 : Nat) (x4 : Int32) (x5 : Int32) (a6 : Nat) (x7 : Int32) (x11 : Int32) (hp : hpT) (cells slots : Nat), P_L_law_b1016 L xs K209 a1 a3 x4 x5 a6 x7 x11 hp Qp → cells + (1679 + k0) ≤ mc → slots + (10649 + s0) ≤ ms → GL D cA h0 p l e R s m args below meth c 23 Q cells slots hp 1016 [(0, .ref b0), (1, .ref a1), (3, .ref a3), (4, .int x4), (5, .int x5), (6, .ref a6), (7, .int x7), (11, .int x11)] [] := by
  intro a1 a3 x4 x5 a6 x7 x11 hp cells slots h hc hs
  unfold P_L_law_b1016 at h
  refine l_iconst (pc := 1016) (v := 1) K dL_law_1016 (by decide) ?_
  refine l_goto (pc := 1017) (tgt := 1021) K dL_law_1017 (by decide) ?_
  exact B_L_law_b1021 (k0 := k0) (s0 := s0) K hR hret hX hbl hbA hK209 ⟨by omega, by omega⟩  _ _ _ _ _ _ _ _ _ _ _ h (by omega) (by omega)
set_option maxRecDepth 100000 in
set_option maxHeartbeats 4000000 in
theorem B_L_law_b1020 {R : Room} {mc ms : Nat} {k0 s0 : Nat} {Q : State → Prop} {Qp : Int32 → hpT → Prop} {b0 L : Nat} {xs : Nat → Int32} (K : Cx strL D cA h0 p l s m args meth c cL_law RL 23) (hR : R.cells = mc ∧ R.slots = ms ∧ 11 ≤ R.frames ∧ 221 ≤ R.locals) (hret : ∀ (pc : Nat) (v : Int32) (hp : hpT) (cells slots : Nat) (lv : List (Nat × Value)), decode cL_law pc = .ok (.ireturn, 1) → rtZP Qp v hp → cells ≤ mc → slots ≤ ms → GL D cA h0 p l e R s m args below meth c 23 Q cells slots hp pc lv [.int v]) (hX : va_X b0 L xs s s.heap) (hbl : b0 < s.heap.size) (hbA : ¬ Af h0 b0) {K209 : Nat → Int32 → Nat → Int32 → Int32 → Nat → Int32 → hpT → (Int32 → hpT → Prop) → Prop} (hK209 : ∀ (a1 : Nat) (x2 : Int32) (a3 : Nat) (x4 : Int32) (x5 : Int32) (a6 : Nat) (x7 : Int32) (hp : hpT) (cells slots : Nat), K209 a1 x2 a3 x4 x5 a6 x7 hp Qp → cells + k0 ≤ mc → slots + s0 ≤ ms → GL D cA h0 p l e R s m args below meth c 23 Q cells slots hp 209 [(0, .ref b0), (1, .ref a1), (2, .int x2), (3, .ref a3), (4, .int x4), (5, .int x5), (6, .ref a6), (7, .int x7)] []) (hA209 : 0 ≤ k0 ∧ 0 ≤ s0) : ∀ (a1 : Nat) (a3 : Nat) (x4 : Int32) (x5 : Int32) (a6 : Nat) (x7 : Int32) (x11 : Int32) (hp : hpT) (cells slots : Nat), P_L_law_b1020 L xs K209 a1 a3 x4 x5 a6 x7 x11 hp Qp → cells + (1679 + k0) ≤ mc → slots + (10649 + s0) ≤ ms → GL D cA h0 p l e R s m args below meth c 23 Q cells slots hp 1020 [(0, .ref b0), (1, .ref a1), (3, .ref a3), (4, .int x4), (5, .int x5), (6, .ref a6), (7, .int x7), (11, .int x11)] [] := by
  intro a1 a3 x4 x5 a6 x7 x11 hp cells slots h hc hs
  unfold P_L_law_b1020 at h
  refine l_iconst (pc := 1020) (v := 0) K dL_law_1020 (by decide) ?_
  exact B_L_law_b1021 (k0 := k0) (s0 := s0) K hR hret hX hbl hbA hK209 ⟨by omega, by omega⟩  _ _ _ _ _ _ _ _ _ _ _ h (by omega) (by omega)
set_option maxRecDepth 100000 in
set_option maxHeartbeats 4000000 in
theorem B_L_law_b808 {R : Room} {mc ms : Nat} {k0 s0 : Nat} {Q : State → Prop} {Qp : Int32 → hpT → Prop} {b0 L : Nat} {xs : Nat → Int32} (K : Cx strL D cA h0 p l s m args meth c cL_law RL 23) (hR : R.cells = mc ∧ R.slots = ms ∧ 11 ≤ R.frames ∧ 221 ≤ R.locals) (hret : ∀ (pc : Nat) (v : Int32) (hp : hpT) (cells slots : Nat) (lv : List (Nat × Value)), decode cL_law pc = .ok (.ireturn, 1) → rtZP Qp v hp → cells ≤ mc → slots ≤ ms → GL D cA h0 p l e R s m args below meth c 23 Q cells slots hp pc lv [.int v]) (hX : va_X b0 L xs s s.heap) (hbl : b0 < s.heap.size) (hbA : ¬ Af h0 b0) {K209 : Nat → Int32 → Nat → Int32 → Int32 → Nat → Int32 → hpT → (Int32 → hpT → Prop) → Prop} (hK209 : ∀ (a1 : Nat) (x2 : Int32) (a3 : Nat) (x4 : Int32) (x5 : Int32) (a6 : Nat) (x7 : Int32) (hp : hpT) (cells slots : Nat), K209 a1 x2 a3 x4 x5 a6 x7 hp Qp → cells + k0 ≤ mc → slots + s0 ≤ ms → GL D cA h0 p l e R s m args below meth c 23 Q cells slots hp 209 [(0, .ref b0), (1, .ref a1), (2, .int x2), (3, .ref a3), (4, .int x4), (5, .int x5), (6, .ref a6), (7, .int x7)] []) (hA209 : 0 ≤ k0 ∧ 0 ≤ s0) : ∀ (a1 : Nat) (a3 : Nat) (x4 : Int32) (x5 : Int32) (a6 : Nat) (x7 : Int32) (x9 : Int32) (x11 : Int32) (x12 : Int32) (xs0 : Int32) (hp : hpT) (cells slots : Nat), P_L_law_b808 L xs K209 a1 a3 x4 x5 a6 x7 x9 x11 x12 xs0 hp Qp → cells + (1695 + k0) ≤ mc → slots + (10745 + s0) ≤ ms → GL D cA h0 p l e R s m args below meth c 23 Q cells slots hp 808 [(0, .ref b0), (1, .ref a1), (3, .ref a3), (4, .int x4), (5, .int x5), (6, .ref a6), (7, .int x7), (9, .int x9), (11, .int x11), (12, .int x12)] [.int xs0] := by
  intro a1 a3 x4 x5 a6 x7 x9 x11 x12 xs0 hp cells slots h hc hs
  unfold P_L_law_b808 at h
  refine l_istore (pc := 808) (lv2 := [(13, .int xs0), (0, .ref b0), (1, .ref a1), (3, .ref a3), (4, .int x4), (5, .int x5), (6, .ref a6), (7, .int x7), (9, .int x9), (11, .int x11), (12, .int x12)]) K dL_law_808 (by decide) rfl ?_
  refine l_aload_n (pc := 810) K 2 dL_law_810 rfl ?_
  refine l_iload (pc := 811) K 9 dL_law_811 rfl ?_
  refine l_iconst (pc := 813) (v := 2) K dL_law_813 (by decide) ?_
  refine lW_long (pc := 814) (st := []) (As := [.ref a1, .int x11, .int 2]) K (M_L_room K.2.2.2.2.2.2.1 _ _ _ _ _ h) dL_law_814 cw_L_room cs_L_room lw_RL_85 rfl rfl ⟨Nat.le_trans (by decide) hR.2.2.1, Nat.le_trans (by decide) hR.2.2.2⟩ rfl rfl (Nat.le_of_ble_eq_true rfl) (by rw [hR.1]; omega) (by rw [hR.2.1]; omega) (fun v37 h37 h => ?_)
  refine l_lstore (pc := 817) (lv2 := [(14, .long v37), (13, .int xs0), (0, .ref b0), (1, .ref a1), (3, .ref a3), (4, .int x4), (5, .int x5), (6, .ref a6), (7, .int x7), (9, .int x9), (11, .int x11), (12, .int x12)]) K dL_law_817 (by decide) rfl ?_
  refine l_aload_n (pc := 819) K 3 dL_law_819 rfl ?_
  refine l_iload (pc := 820) K 10 dL_law_820 rfl ?_
  refine l_iconst (pc := 822) (v := 4) K dL_law_822 (by decide) ?_
  refine lW_long (pc := 823) (st := []) (As := [.ref a1, .int x11, .int 4]) K (M_L_room K.2.2.2.2.2.2.1 _ _ _ _ _ h) dL_law_823 cw_L_room cs_L_room lw_RL_85 rfl rfl ⟨Nat.le_trans (by decide) hR.2.2.1, Nat.le_trans (by decide) hR.2.2.2⟩ rfl rfl (Nat.le_of_ble_eq_true rfl) (by rw [hR.1]; omega) (by rw [hR.2.1]; omega) (fun v38 h38 h => ?_)
  refine l_lstore (pc := 826) (lv2 := [(16, .long v38), (14, .long v37), (13, .int xs0), (0, .ref b0), (1, .ref a1), (3, .ref a3), (4, .int x4), (5, .int x5), (6, .ref a6), (7, .int x7), (9, .int x9), (11, .int x11), (12, .int x12)]) K dL_law_826 (by decide) rfl ?_
  refine l_aload_n (pc := 828) K 4 dL_law_828 rfl ?_
  refine l_iload (pc := 829) K 11 dL_law_829 rfl ?_
  refine l_iconst (pc := 831) (v := 1) K dL_law_831 (by decide) ?_
  refine lW_long (pc := 832) (st := []) (As := [.ref a1, .int x11, .int 1]) K (M_L_room K.2.2.2.2.2.2.1 _ _ _ _ _ h) dL_law_832 cw_L_room cs_L_room lw_RL_85 rfl rfl ⟨Nat.le_trans (by decide) hR.2.2.1, Nat.le_trans (by decide) hR.2.2.2⟩ rfl rfl (Nat.le_of_ble_eq_true rfl) (by rw [hR.1]; omega) (by rw [hR.2.1]; omega) (fun v39 h39 h => ?_)
  refine l_lstore (pc := 835) (lv2 := [(18, .long v39), (16, .long v38), (14, .long v37), (13, .int xs0), (0, .ref b0), (1, .ref a1), (3, .ref a3), (4, .int x4), (5, .int x5), (6, .ref a6), (7, .int x7), (9, .int x9), (11, .int x11), (12, .int x12)]) K dL_law_835 (by decide) rfl ?_
  refine l_aload_n (pc := 837) K 5 dL_law_837 rfl ?_
  refine lV_int (pc := 838) (st := []) (As := []) (b := a1) (ci := 7) (q0 := (RX7, TX7, 8)) K (fun _ e1 => M_X7_lost K.2.2.2.2.2.2.1 _ _ _ e1) h dL_law_838 ce_X7_lost cv_X7_lost lk_RL_103 rfl rfl rfl rfl ⟨Nat.le_trans (by decide) hR.2.2.1, Nat.le_trans (by decide) hR.2.2.2⟩ rfl rfl (Nat.le_of_ble_eq_true rfl) (by rw [hR.1]; omega) (by rw [hR.2.1]; omega) (fun v40 h40 h => ?_)
  refine l_istore (pc := 841) (lv2 := [(20, .int v40), (18, .long v39), (16, .long v38), (14, .long v37), (13, .int xs0), (0, .ref b0), (1, .ref a1), (3, .ref a3), (4, .int x4), (5, .int x5), (6, .ref a6), (7, .int x7), (9, .int x9), (11, .int x11), (12, .int x12)]) K dL_law_841 (by decide) rfl ?_
  refine l_aload_n (pc := 843) K 6 dL_law_843 rfl ?_
  refine l_iload (pc := 844) K 13 dL_law_844 rfl ?_
  refine l_iload (pc := 846) K 4 dL_law_846 rfl ?_
  refine l_iconst (pc := 848) (v := 1) K dL_law_848 (by decide) ?_
  refine l_iload (pc := 849) K 12 dL_law_849 rfl ?_
  refine l_bipush (pc := 851) (v := 8) K dL_law_851 (by decide) ?_
  refine l_idiv (pc := 853) K dL_law_853 h (fun h => ?_)
  refine l_bipush (pc := 854) (v := 12) K dL_law_854 (by decide) ?_
  refine l_irem (pc := 856) K dL_law_856 h (fun h => ?_)
  refine l_iadd (pc := 857) K dL_law_857 ?_
  refine lW_long (pc := 858) (st := []) (As := [.ref a1, .int x11, .int xs0, .int (1 + (irm (x9 / 8) 12))]) K (M_L_lengthen K.2.2.2.2.2.2.1 _ _ _ _ _ _ h) dL_law_858 cw_L_lengthen cs_L_lengthen lw_RL_119 rfl rfl ⟨Nat.le_trans (by decide) hR.2.2.1, Nat.le_trans (by decide) hR.2.2.2⟩ rfl rfl (Nat.le_of_ble_eq_true rfl) (by rw [hR.1]; omega) (by rw [hR.2.1]; omega) (fun v41 h41 h => ?_)
  refine l_lstore (pc := 861) (lv2 := [(21, .long v41), (20, .int v40), (18, .long v39), (16, .long v38), (14, .long v37), (13, .int xs0), (0, .ref b0), (1, .ref a1), (3, .ref a3), (4, .int x4), (5, .int x5), (6, .ref a6), (7, .int x7), (9, .int x9), (11, .int x11), (12, .int x12)]) K dL_law_861 (by decide) rfl ?_
  refine l_iload (pc := 863) K 15 dL_law_863 rfl ?_
  refine l_if_ne (pc := 865) (tgt := 885) K dL_law_865 (by decide) h (fun h => ?_) (fun h => ?_)
  · refine l_lload (pc := 885) K 4 dL_law_885 rfl ?_
    refine l_lconst (pc := 887) (v := 0) K dL_law_887 (by decide) ?_
    refine l_lc_ge (pc := 888) (tgt := 909) K dL_law_888 dL_law_889 (by decide) h (fun h => ?_) (fun h => ?_)
    · refine l_lload (pc := 909) K 0 dL_law_909 rfl ?_
      refine l_ldc2 (pc := 911) (v := (-9000000000000000003)) K dL_law_911 kl_21 ?_
      refine l_lc_eq (pc := 914) (tgt := 1016) K dL_law_914 dL_law_915 (by decide) h (fun h => ?_) (fun h => ?_)
      · refine l_sub [6, 7, 8, 9, 10, 11, 12, 14] rfl ?_
        exact B_L_law_b1016 (k0 := k0) (s0 := s0) K hR hret hX hbl hbA hK209 ⟨by omega, by omega⟩  _ _ _ _ _ _ _ _ _ _ h (by omega) (by omega)
      · refine l_aload_n (pc := 918) K 7 dL_law_918 rfl ?_
        refine l_iload (pc := 919) K 14 dL_law_919 rfl ?_
        refine l_iconst (pc := 921) (v := 1) K dL_law_921 (by decide) ?_
        refine lW_long (pc := 922) (st := []) (As := [.ref a1, .int x11, .int 1]) K (M_L_room K.2.2.2.2.2.2.1 _ _ _ _ _ h) dL_law_922 cw_L_room cs_L_room lw_RL_85 rfl rfl ⟨Nat.le_trans (by decide) hR.2.2.1, Nat.le_trans (by decide) hR.2.2.2⟩ rfl rfl (Nat.le_of_ble_eq_true rfl) (by rw [hR.1]; omega) (by rw [hR.2.1]; omega) (fun v42 h42 h => ?_)
        refine l_lload (pc := 925) K 2 dL_law_925 rfl ?_
        refine l_lconst (pc := 927) (v := 1) K dL_law_927 (by decide) ?_
        refine l_ladd (pc := 928) K dL_law_928 ?_
        refine l_iload (pc := 929) K 13 dL_law_929 rfl ?_
        refine l_bipush (pc := 931) (v := 8) K dL_law_931 (by decide) ?_
        refine l_idiv (pc := 933) K dL_law_933 h (fun h => ?_)
        refine l_bipush (pc := 934) (v := 12) K dL_law_934 (by decide) ?_
        refine l_irem (pc := 936) K dL_law_936 h (fun h => ?_)
        refine l_i2l (pc := 937) K dL_law_937 ?_
        refine l_ladd (pc := 938) K dL_law_938 ?_
        refine l_lc_ne (pc := 939) (tgt := 1020) K dL_law_939 dL_law_940 (by decide) h (fun h => ?_) (fun h => ?_)
        · refine l_sub [6, 7, 8, 9, 10, 11, 12, 14] rfl ?_
          exact B_L_law_b1020 (k0 := k0) (s0 := s0) K hR hret hX hbl hbA hK209 ⟨by omega, by omega⟩  _ _ _ _ _ _ _ _ _ _ h (by omega) (by omega)
        · refine l_lload (pc := 943) K 0 dL_law_943 rfl ?_
          refine l_lconst (pc := 945) (v := 0) K dL_law_945 (by decide) ?_
          refine l_lc_lt (pc := 946) (tgt := 978) K dL_law_946 dL_law_947 (by decide) h (fun h => ?_) (fun h => ?_)
          · refine l_aload_n (pc := 978) K 7 dL_law_978 rfl ?_
            refine l_iload (pc := 979) K 14 dL_law_979 rfl ?_
            refine l_iconst (pc := 981) (v := 2) K dL_law_981 (by decide) ?_
            refine lW_long (pc := 982) (st := []) (As := [.ref a1, .int x11, .int 2]) K (M_L_room K.2.2.2.2.2.2.1 _ _ _ _ _ h) dL_law_982 cw_L_room cs_L_room lw_RL_85 rfl rfl ⟨Nat.le_trans (by decide) hR.2.2.1, Nat.le_trans (by decide) hR.2.2.2⟩ rfl rfl (Nat.le_of_ble_eq_true rfl) (by rw [hR.1]; omega) (by rw [hR.2.1]; omega) (fun v43 h43 h => ?_)
            refine l_ldc2 (pc := 985) (v := (-1)) K dL_law_985 kl_88 ?_
            refine l_lc_ne (pc := 988) (tgt := 1020) K dL_law_988 dL_law_989 (by decide) h (fun h => ?_) (fun h => ?_)
            · refine l_sub [6, 7, 8, 9, 10, 11, 12, 14] rfl ?_
              exact B_L_law_b1020 (k0 := k0) (s0 := s0) K hR hret hX hbl hbA hK209 ⟨by omega, by omega⟩  _ _ _ _ _ _ _ _ _ _ h (by omega) (by omega)
            · refine l_aload_n (pc := 992) K 7 dL_law_992 rfl ?_
              refine lV_int (pc := 993) (st := []) (As := []) (b := a1) (ci := 7) (q0 := (RX7, TX7, 8)) K (fun _ e1 => M_X7_lost K.2.2.2.2.2.2.1 _ _ _ e1) h dL_law_993 ce_X7_lost cv_X7_lost lk_RL_103 rfl rfl rfl rfl ⟨Nat.le_trans (by decide) hR.2.2.1, Nat.le_trans (by decide) hR.2.2.2⟩ rfl rfl (Nat.le_of_ble_eq_true rfl) (by rw [hR.1]; omega) (by rw [hR.2.1]; omega) (fun v44 h44 h => ?_)
              refine l_i2l (pc := 996) K dL_law_996 ?_
              refine l_iload (pc := 997) K 1 dL_law_997 rfl ?_
              refine l_i2l (pc := 999) K dL_law_999 ?_
              refine l_lload (pc := 1000) K 3 dL_law_1000 rfl ?_
              refine l_aload_n (pc := 1002) K 7 dL_law_1002 rfl ?_
              refine l_lload (pc := 1003) K 4 dL_law_1003 rfl ?_
              refine l_l2i (pc := 1005) K dL_law_1005 ?_
              refine l_iconst (pc := 1006) (v := 3) K dL_law_1006 (by decide) ?_
              refine lW_long (pc := 1007) (st := [.long v38, .long v40.toInt64, .long v44.toInt64]) (As := [.ref a1, .int v37.toInt32, .int 3]) K (M_L_lotOf K.2.2.2.2.2.2.1 _ _ _ _ _ h) dL_law_1007 cw_L_lotOf cs_L_lotOf lw_RL_99 rfl rfl ⟨Nat.le_trans (by decide) hR.2.2.1, Nat.le_trans (by decide) hR.2.2.2⟩ rfl rfl (Nat.le_of_ble_eq_true rfl) (by rw [hR.1]; omega) (by rw [hR.2.1]; omega) (fun v45 h45 h => ?_)
              refine l_lmul (pc := 1010) K dL_law_1010 ?_
              refine l_ladd (pc := 1011) K dL_law_1011 ?_
              refine l_lc_ne (pc := 1012) (tgt := 1020) K dL_law_1012 dL_law_1013 (by decide) h (fun h => ?_) (fun h => ?_)
              · refine l_sub [6, 7, 8, 9, 10, 11, 12, 14] rfl ?_
                exact B_L_law_b1020 (k0 := k0) (s0 := s0) K hR hret hX hbl hbA hK209 ⟨by omega, by omega⟩  _ _ _ _ _ _ _ _ _ _ h (by omega) (by omega)
              · refine l_sub [6, 7, 8, 9, 10, 11, 12, 14] rfl ?_
                exact B_L_law_b1016 (k0 := k0) (s0 := s0) K hR hret hX hbl hbA hK209 ⟨by omega, by omega⟩  _ _ _ _ _ _ _ _ _ _ h (by omega) (by omega)
          · refine l_aload_n (pc := 950) K 7 dL_law_950 rfl ?_
            refine l_iload (pc := 951) K 14 dL_law_951 rfl ?_
            refine l_iconst (pc := 953) (v := 4) K dL_law_953 (by decide) ?_
            refine lW_long (pc := 954) (st := []) (As := [.ref a1, .int x11, .int 4]) K (M_L_room K.2.2.2.2.2.2.1 _ _ _ _ _ h) dL_law_954 cw_L_room cs_L_room lw_RL_85 rfl rfl ⟨Nat.le_trans (by decide) hR.2.2.1, Nat.le_trans (by decide) hR.2.2.2⟩ rfl rfl (Nat.le_of_ble_eq_true rfl) (by rw [hR.1]; omega) (by rw [hR.2.1]; omega) (fun v46 h46 h => ?_)
            refine l_lload (pc := 957) K 3 dL_law_957 rfl ?_
            refine l_lload (pc := 959) K 0 dL_law_959 rfl ?_
            refine l_ladd (pc := 961) K dL_law_961 ?_
            refine l_lc_ne (pc := 962) (tgt := 1020) K dL_law_962 dL_law_963 (by decide) h (fun h => ?_) (fun h => ?_)
            · refine l_sub [6, 7, 8, 9, 10, 11, 12, 14] rfl ?_
              exact B_L_law_b1020 (k0 := k0) (s0 := s0) K hR hret hX hbl hbA hK209 ⟨by omega, by omega⟩  _ _ _ _ _ _ _ _ _ _ h (by omega) (by omega)
            · refine l_aload_n (pc := 966) K 7 dL_law_966 rfl ?_
              refine lV_int (pc := 967) (st := []) (As := []) (b := a1) (ci := 7) (q0 := (RX7, TX7, 8)) K (fun _ e1 => M_X7_lost K.2.2.2.2.2.2.1 _ _ _ e1) h dL_law_967 ce_X7_lost cv_X7_lost lk_RL_103 rfl rfl rfl rfl ⟨Nat.le_trans (by decide) hR.2.2.1, Nat.le_trans (by decide) hR.2.2.2⟩ rfl rfl (Nat.le_of_ble_eq_true rfl) (by rw [hR.1]; omega) (by rw [hR.2.1]; omega) (fun v47 h47 h => ?_)
              refine l_iload (pc := 970) K 1 dL_law_970 rfl ?_
              refine l_icmp_ne (pc := 972) (tgt := 1020) K dL_law_972 (by decide) h (fun h => ?_) (fun h => ?_)
              · refine l_sub [6, 7, 8, 9, 10, 11, 12, 14] rfl ?_
                exact B_L_law_b1020 (k0 := k0) (s0 := s0) K hR hret hX hbl hbA hK209 ⟨by omega, by omega⟩  _ _ _ _ _ _ _ _ _ _ h (by omega) (by omega)
              · refine l_goto (pc := 975) (tgt := 1016) K dL_law_975 (by decide) ?_
                refine l_sub [6, 7, 8, 9, 10, 11, 12, 14] rfl ?_
                exact B_L_law_b1016 (k0 := k0) (s0 := s0) K hR hret hX hbl hbA hK209 ⟨by omega, by omega⟩  _ _ _ _ _ _ _ _ _ _ h (by omega) (by omega)
    · refine l_lload (pc := 892) K 0 dL_law_892 rfl ?_
      refine l_ldc2 (pc := 894) (v := (-9000000000000000003)) K dL_law_894 kl_21 ?_
      refine l_lc_ne (pc := 897) (tgt := 905) K dL_law_897 dL_law_898 (by decide) h (fun h => ?_) (fun h => ?_)
      · refine l_iconst (pc := 905) (v := 0) K dL_law_905 (by decide) ?_
        refine l_goto (pc := 906) (tgt := 1021) K dL_law_906 (by decide) ?_
        refine l_sub [6, 7, 8, 9, 10, 11, 12, 14] rfl ?_
        exact B_L_law_b1021 (k0 := k0) (s0 := s0) K hR hret hX hbl hbA hK209 ⟨by omega, by omega⟩  _ _ _ _ _ _ _ _ _ _ _ h (by omega) (by omega)
      · refine l_iconst (pc := 901) (v := 1) K dL_law_901 (by decide) ?_
        refine l_goto (pc := 902) (tgt := 1021) K dL_law_902 (by decide) ?_
        refine l_sub [6, 7, 8, 9, 10, 11, 12, 14] rfl ?_
        exact B_L_law_b1021 (k0 := k0) (s0 := s0) K hR hret hX hbl hbA hK209 ⟨by omega, by omega⟩  _ _ _ _ _ _ _ _ _ _ _ h (by omega) (by omega)
  · refine l_lload (pc := 868) K 0 dL_law_868 rfl ?_
    refine l_ldc2 (pc := 870) (v := (-9000000000000000001)) K dL_law_870 kl_29 ?_
    refine l_lc_ne (pc := 873) (tgt := 881) K dL_law_873 dL_law_874 (by decide) h (fun h => ?_) (fun h => ?_)
    · refine l_iconst (pc := 881) (v := 0) K dL_law_881 (by decide) ?_
      refine l_goto (pc := 882) (tgt := 1021) K dL_law_882 (by decide) ?_
      refine l_sub [6, 7, 8, 9, 10, 11, 12, 14] rfl ?_
      exact B_L_law_b1021 (k0 := k0) (s0 := s0) K hR hret hX hbl hbA hK209 ⟨by omega, by omega⟩  _ _ _ _ _ _ _ _ _ _ _ h (by omega) (by omega)
    · refine l_iconst (pc := 877) (v := 1) K dL_law_877 (by decide) ?_
      refine l_goto (pc := 878) (tgt := 1021) K dL_law_878 (by decide) ?_
      refine l_sub [6, 7, 8, 9, 10, 11, 12, 14] rfl ?_
      exact B_L_law_b1021 (k0 := k0) (s0 := s0) K hR hret hX hbl hbA hK209 ⟨by omega, by omega⟩  _ _ _ _ _ _ _ _ _ _ _ h (by omega) (by omega)
set_option maxRecDepth 100000 in
set_option maxHeartbeats 4000000 in
theorem B_L_law_b1121 {R : Room} {mc ms : Nat} {k0 s0 : Nat} {Q : State → Prop} {Qp : Int32 → hpT → Prop} {b0 L : Nat} {xs : Nat → Int32} (K : Cx strL D cA h0 p l s m args meth c cL_law RL 23) (hR : R.cells = mc ∧ R.slots = ms ∧ 11 ≤ R.frames ∧ 221 ≤ R.locals) (hret : ∀ (pc : Nat) (v : Int32) (hp : hpT) (cells slots : Nat) (lv : List (Nat × Value)), decode cL_law pc = .ok (.ireturn, 1) → rtZP Qp v hp → cells ≤ mc → slots ≤ ms → GL D cA h0 p l e R s m args below meth c 23 Q cells slots hp pc lv [.int v]) (hX : va_X b0 L xs s s.heap) (hbl : b0 < s.heap.size) (hbA : ¬ Af h0 b0) {K209 : Nat → Int32 → Nat → Int32 → Int32 → Nat → Int32 → hpT → (Int32 → hpT → Prop) → Prop} (hK209 : ∀ (a1 : Nat) (x2 : Int32) (a3 : Nat) (x4 : Int32) (x5 : Int32) (a6 : Nat) (x7 : Int32) (hp : hpT) (cells slots : Nat), K209 a1 x2 a3 x4 x5 a6 x7 hp Qp → cells + k0 ≤ mc → slots + s0 ≤ ms → GL D cA h0 p l e R s m args below meth c 23 Q cells slots hp 209 [(0, .ref b0), (1, .ref a1), (2, .int x2), (3, .ref a3), (4, .int x4), (5, .int x5), (6, .ref a6), (7, .int x7)] []) (hA209 : 0 ≤ k0 ∧ 0 ≤ s0) : ∀ (a1 : Nat) (a3 : Nat) (x4 : Int32) (x5 : Int32) (a6 : Nat) (x7 : Int32) (x11 : Int32) (xs0 : Int32) (hp : hpT) (cells slots : Nat), P_L_law_b1121 L xs K209 a1 a3 x4 x5 a6 x7 x11 xs0 hp Qp → cells + (1679 + k0) ≤ mc → slots + (10649 + s0) ≤ ms → GL D cA h0 p l e R s m args below meth c 23 Q cells slots hp 1121 [(0, .ref b0), (1, .ref a1), (3, .ref a3), (4, .int x4), (5, .int x5), (6, .ref a6), (7, .int x7), (11, .int x11)] [.int xs0] := by
  intro a1 a3 x4 x5 a6 x7 x11 xs0 hp cells slots h hc hs
  unfold P_L_law_b1121 at h
  refine l_istore_n (pc := 1121) (lv2 := [(2, .int xs0), (0, .ref b0), (1, .ref a1), (3, .ref a3), (4, .int x4), (5, .int x5), (6, .ref a6), (7, .int x7), (11, .int x11)]) K dL_law_1121 (by decide) rfl ?_
  refine l_goto (pc := 1122) (tgt := 1140) K dL_law_1122 (by decide) ?_
  refine l_sub [1, 2, 0, 3, 4, 5, 6, 7, 8] rfl ?_
  exact B_L_law_b1140 (k0 := k0) (s0 := s0) K hR hret hX hbl hbA hK209 ⟨by omega, by omega⟩  _ _ _ _ _ _ _ _ _ _ _ h (by omega) (by omega)
set_option maxRecDepth 100000 in
set_option maxHeartbeats 4000000 in
theorem B_L_law_b1120 {R : Room} {mc ms : Nat} {k0 s0 : Nat} {Q : State → Prop} {Qp : Int32 → hpT → Prop} {b0 L : Nat} {xs : Nat → Int32} (K : Cx strL D cA h0 p l s m args meth c cL_law RL 23) (hR : R.cells = mc ∧ R.slots = ms ∧ 11 ≤ R.frames ∧ 221 ≤ R.locals) (hret : ∀ (pc : Nat) (v : Int32) (hp : hpT) (cells slots : Nat) (lv : List (Nat × Value)), decode cL_law pc = .ok (.ireturn, 1) → rtZP Qp v hp → cells ≤ mc → slots ≤ ms → GL D cA h0 p l e R s m args below meth c 23 Q cells slots hp pc lv [.int v]) (hX : va_X b0 L xs s s.heap) (hbl : b0 < s.heap.size) (hbA : ¬ Af h0 b0) {K209 : Nat → Int32 → Nat → Int32 → Int32 → Nat → Int32 → hpT → (Int32 → hpT → Prop) → Prop} (hK209 : ∀ (a1 : Nat) (x2 : Int32) (a3 : Nat) (x4 : Int32) (x5 : Int32) (a6 : Nat) (x7 : Int32) (hp : hpT) (cells slots : Nat), K209 a1 x2 a3 x4 x5 a6 x7 hp Qp → cells + k0 ≤ mc → slots + s0 ≤ ms → GL D cA h0 p l e R s m args below meth c 23 Q cells slots hp 209 [(0, .ref b0), (1, .ref a1), (2, .int x2), (3, .ref a3), (4, .int x4), (5, .int x5), (6, .ref a6), (7, .int x7)] []) (hA209 : 0 ≤ k0 ∧ 0 ≤ s0) : ∀ (a1 : Nat) (a3 : Nat) (x4 : Int32) (x5 : Int32) (a6 : Nat) (x7 : Int32) (x11 : Int32) (hp : hpT) (cells slots : Nat), P_L_law_b1120 L xs K209 a1 a3 x4 x5 a6 x7 x11 hp Qp → cells + (1679 + k0) ≤ mc → slots + (10649 + s0) ≤ ms → GL D cA h0 p l e R s m args below meth c 23 Q cells slots hp 1120 [(0, .ref b0), (1, .ref a1), (3, .ref a3), (4, .int x4), (5, .int x5), (6, .ref a6), (7, .int x7), (11, .int x11)] [] := by
  intro a1 a3 x4 x5 a6 x7 x11 hp cells slots h hc hs
  unfold P_L_law_b1120 at h
  refine l_iconst (pc := 1120) (v := 0) K dL_law_1120 (by decide) ?_
  exact B_L_law_b1121 (k0 := k0) (s0 := s0) K hR hret hX hbl hbA hK209 ⟨by omega, by omega⟩  _ _ _ _ _ _ _ _ _ _ _ h (by omega) (by omega)
set_option maxRecDepth 100000 in
set_option maxHeartbeats 4000000 in
theorem B_L_law_b1111 {R : Room} {mc ms : Nat} {k0 s0 : Nat} {Q : State → Prop} {Qp : Int32 → hpT → Prop} {b0 L : Nat} {xs : Nat → Int32} (K : Cx strL D cA h0 p l s m args meth c cL_law RL 23) (hR : R.cells = mc ∧ R.slots = ms ∧ 11 ≤ R.frames ∧ 221 ≤ R.locals) (hret : ∀ (pc : Nat) (v : Int32) (hp : hpT) (cells slots : Nat) (lv : List (Nat × Value)), decode cL_law pc = .ok (.ireturn, 1) → rtZP Qp v hp → cells ≤ mc → slots ≤ ms → GL D cA h0 p l e R s m args below meth c 23 Q cells slots hp pc lv [.int v]) (hX : va_X b0 L xs s s.heap) (hbl : b0 < s.heap.size) (hbA : ¬ Af h0 b0) {K209 : Nat → Int32 → Nat → Int32 → Int32 → Nat → Int32 → hpT → (Int32 → hpT → Prop) → Prop} (hK209 : ∀ (a1 : Nat) (x2 : Int32) (a3 : Nat) (x4 : Int32) (x5 : Int32) (a6 : Nat) (x7 : Int32) (hp : hpT) (cells slots : Nat), K209 a1 x2 a3 x4 x5 a6 x7 hp Qp → cells + k0 ≤ mc → slots + s0 ≤ ms → GL D cA h0 p l e R s m args below meth c 23 Q cells slots hp 209 [(0, .ref b0), (1, .ref a1), (2, .int x2), (3, .ref a3), (4, .int x4), (5, .int x5), (6, .ref a6), (7, .int x7)] []) (hA209 : 0 ≤ k0 ∧ 0 ≤ s0) : ∀ (a1 : Nat) (a3 : Nat) (x4 : Int32) (x5 : Int32) (a6 : Nat) (x7 : Int32) (x11 : Int32) (ys0 : Int64) (ys1 : Int64) (ys2 : Int64) (hp : hpT) (cells slots : Nat), P_L_law_b1111 L xs K209 a1 a3 x4 x5 a6 x7 x11 ys0 ys1 ys2 hp Qp → cells + (1679 + k0) ≤ mc → slots + (10649 + s0) ≤ ms → GL D cA h0 p l e R s m args below meth c 23 Q cells slots hp 1111 [(0, .ref b0), (1, .ref a1), (3, .ref a3), (4, .int x4), (5, .int x5), (6, .ref a6), (7, .int x7), (11, .int x11)] [.long ys0, .long ys1, .long ys2] := by
  intro a1 a3 x4 x5 a6 x7 x11 ys0 ys1 ys2 hp cells slots h hc hs
  unfold P_L_law_b1111 at h
  refine l_ladd (pc := 1111) K dL_law_1111 ?_
  refine l_lc_ne (pc := 1112) (tgt := 1120) K dL_law_1112 dL_law_1113 (by decide) h (fun h => ?_) (fun h => ?_)
  · exact B_L_law_b1120 (k0 := k0) (s0 := s0) K hR hret hX hbl hbA hK209 ⟨by omega, by omega⟩  _ _ _ _ _ _ _ _ _ _ h (by omega) (by omega)
  · refine l_iconst (pc := 1116) (v := 1) K dL_law_1116 (by decide) ?_
    refine l_goto (pc := 1117) (tgt := 1121) K dL_law_1117 (by decide) ?_
    exact B_L_law_b1121 (k0 := k0) (s0 := s0) K hR hret hX hbl hbA hK209 ⟨by omega, by omega⟩  _ _ _ _ _ _ _ _ _ _ _ h (by omega) (by omega)
set_option maxRecDepth 100000 in
set_option maxHeartbeats 4000000 in
theorem B_L_law_b1077 {R : Room} {mc ms : Nat} {k0 s0 : Nat} {Q : State → Prop} {Qp : Int32 → hpT → Prop} {b0 L : Nat} {xs : Nat → Int32} (K : Cx strL D cA h0 p l s m args meth c cL_law RL 23) (hR : R.cells = mc ∧ R.slots = ms ∧ 11 ≤ R.frames ∧ 221 ≤ R.locals) (hret : ∀ (pc : Nat) (v : Int32) (hp : hpT) (cells slots : Nat) (lv : List (Nat × Value)), decode cL_law pc = .ok (.ireturn, 1) → rtZP Qp v hp → cells ≤ mc → slots ≤ ms → GL D cA h0 p l e R s m args below meth c 23 Q cells slots hp pc lv [.int v]) (hX : va_X b0 L xs s s.heap) (hbl : b0 < s.heap.size) (hbA : ¬ Af h0 b0) {K209 : Nat → Int32 → Nat → Int32 → Int32 → Nat → Int32 → hpT → (Int32 → hpT → Prop) → Prop} (hK209 : ∀ (a1 : Nat) (x2 : Int32) (a3 : Nat) (x4 : Int32) (x5 : Int32) (a6 : Nat) (x7 : Int32) (hp : hpT) (cells slots : Nat), K209 a1 x2 a3 x4 x5 a6 x7 hp Qp → cells + k0 ≤ mc → slots + s0 ≤ ms → GL D cA h0 p l e R s m args below meth c 23 Q cells slots hp 209 [(0, .ref b0), (1, .ref a1), (2, .int x2), (3, .ref a3), (4, .int x4), (5, .int x5), (6, .ref a6), (7, .int x7)] []) (hA209 : 0 ≤ k0 ∧ 0 ≤ s0) : ∀ (a1 : Nat) (a3 : Nat) (x4 : Int32) (x5 : Int32) (a6 : Nat) (x7 : Int32) (x11 : Int32) (y12 : Int64) (y14 : Int64) (x16 : Int32) (ys0 : Int64) (ys1 : Int64) (hp : hpT) (cells slots : Nat), P_L_law_b1077 L xs K209 a1 a3 x4 x5 a6 x7 x11 y12 y14 x16 ys0 ys1 hp Qp → cells + (1681 + k0) ≤ mc → slots + (10661 + s0) ≤ ms → GL D cA h0 p l e R s m args below meth c 23 Q cells slots hp 1077 [(0, .ref b0), (1, .ref a1), (3, .ref a3), (4, .int x4), (5, .int x5), (6, .ref a6), (7, .int x7), (11, .int x11), (12, .long y12), (14, .long y14), (16, .int x16)] [.long ys0, .long ys1] := by
  intro a1 a3 x4 x5 a6 x7 x11 y12 y14 x16 ys0 ys1 hp cells slots h hc hs
  unfold P_L_law_b1077 at h
  refine l_lc_ne (pc := 1077) (tgt := 1120) K dL_law_1077 dL_law_1078 (by decide) h (fun h => ?_) (fun h => ?_)
  · refine l_sub [0, 1, 2, 3, 4, 5, 6, 7] rfl ?_
    exact B_L_law_b1120 (k0 := k0) (s0 := s0) K hR hret hX hbl hbA hK209 ⟨by omega, by omega⟩  _ _ _ _ _ _ _ _ _ _ h (by omega) (by omega)
  · refine l_aload_n (pc := 1081) K 1 dL_law_1081 rfl ?_
    refine lV_int (pc := 1082) (st := []) (As := []) (b := a1) (ci := 7) (q0 := (RX7, TX7, 8)) K (fun _ e1 => M_X7_lost K.2.2.2.2.2.2.1 _ _ _ e1) h dL_law_1082 ce_X7_lost cv_X7_lost lk_RL_103 rfl rfl rfl rfl ⟨Nat.le_trans (by decide) hR.2.2.1, Nat.le_trans (by decide) hR.2.2.2⟩ rfl rfl (Nat.le_of_ble_eq_true rfl) (by rw [hR.1]; omega) (by rw [hR.2.1]; omega) (fun v48 h48 h => ?_)
    refine l_i2l (pc := 1085) K dL_law_1085 ?_
    refine l_iload (pc := 1086) K 10 dL_law_1086 rfl ?_
    refine l_i2l (pc := 1088) K dL_law_1088 ?_
    refine l_lload (pc := 1089) K 8 dL_law_1089 rfl ?_
    refine l_lconst (pc := 1091) (v := 0) K dL_law_1091 (by decide) ?_
    refine l_lc_ge (pc := 1092) (tgt := 1100) K dL_law_1092 dL_law_1093 (by decide) h (fun h => ?_) (fun h => ?_)
    · refine l_lload (pc := 1100) K 9 dL_law_1100 rfl ?_
      refine l_aload_n (pc := 1102) K 1 dL_law_1102 rfl ?_
      refine l_lload (pc := 1103) K 8 dL_law_1103 rfl ?_
      refine l_l2i (pc := 1105) K dL_law_1105 ?_
      refine l_iconst (pc := 1106) (v := 3) K dL_law_1106 (by decide) ?_
      refine lW_long (pc := 1107) (st := [.long y14, .long x16.toInt64, .long v48.toInt64]) (As := [.ref a1, .int y12.toInt32, .int 3]) K (M_L_lotOf K.2.2.2.2.2.2.1 _ _ _ _ _ h) dL_law_1107 cw_L_lotOf cs_L_lotOf lw_RL_99 rfl rfl ⟨Nat.le_trans (by decide) hR.2.2.1, Nat.le_trans (by decide) hR.2.2.2⟩ rfl rfl (Nat.le_of_ble_eq_true rfl) (by rw [hR.1]; omega) (by rw [hR.2.1]; omega) (fun v49 h49 h => ?_)
      refine l_lmul (pc := 1110) K dL_law_1110 ?_
      refine l_sub [0, 1, 2, 3, 4, 5, 6, 7] rfl ?_
      exact B_L_law_b1111 (k0 := k0) (s0 := s0) K hR hret hX hbl hbA hK209 ⟨by omega, by omega⟩  _ _ _ _ _ _ _ _ _ _ _ _ _ h (by omega) (by omega)
    · refine l_lconst (pc := 1096) (v := 0) K dL_law_1096 (by decide) ?_
      refine l_goto (pc := 1097) (tgt := 1111) K dL_law_1097 (by decide) ?_
      refine l_sub [0, 1, 2, 3, 4, 5, 6, 7] rfl ?_
      exact B_L_law_b1111 (k0 := k0) (s0 := s0) K hR hret hX hbl hbA hK209 ⟨by omega, by omega⟩  _ _ _ _ _ _ _ _ _ _ _ _ _ h (by omega) (by omega)
set_option maxRecDepth 100000 in
set_option maxHeartbeats 4000000 in
theorem B_L_law_b777 {R : Room} {mc ms : Nat} {k0 s0 : Nat} {Q : State → Prop} {Qp : Int32 → hpT → Prop} {b0 L : Nat} {xs : Nat → Int32} (K : Cx strL D cA h0 p l s m args meth c cL_law RL 23) (hR : R.cells = mc ∧ R.slots = ms ∧ 11 ≤ R.frames ∧ 221 ≤ R.locals) (hret : ∀ (pc : Nat) (v : Int32) (hp : hpT) (cells slots : Nat) (lv : List (Nat × Value)), decode cL_law pc = .ok (.ireturn, 1) → rtZP Qp v hp → cells ≤ mc → slots ≤ ms → GL D cA h0 p l e R s m args below meth c 23 Q cells slots hp pc lv [.int v]) (hX : va_X b0 L xs s s.heap) (hbl : b0 < s.heap.size) (hbA : ¬ Af h0 b0) {K209 : Nat → Int32 → Nat → Int32 → Int32 → Nat → Int32 → hpT → (Int32 → hpT → Prop) → Prop} (hK209 : ∀ (a1 : Nat) (x2 : Int32) (a3 : Nat) (x4 : Int32) (x5 : Int32) (a6 : Nat) (x7 : Int32) (hp : hpT) (cells slots : Nat), K209 a1 x2 a3 x4 x5 a6 x7 hp Qp → cells + k0 ≤ mc → slots + s0 ≤ ms → GL D cA h0 p l e R s m args below meth c 23 Q cells slots hp 209 [(0, .ref b0), (1, .ref a1), (2, .int x2), (3, .ref a3), (4, .int x4), (5, .int x5), (6, .ref a6), (7, .int x7)] []) (hA209 : 0 ≤ k0 ∧ 0 ≤ s0) : ∀ (a1 : Nat) (a3 : Nat) (x4 : Int32) (x5 : Int32) (a6 : Nat) (x7 : Int32) (x8 : Int32) (x9 : Int32) (x10 : Int32) (x11 : Int32) (hp : hpT) (cells slots : Nat), P_L_law_b777 L xs K209 a1 a3 x4 x5 a6 x7 x8 x9 x10 x11 hp Qp → cells + (1728 + k0) ≤ mc → slots + (10943 + s0) ≤ ms → GL D cA h0 p l e R s m args below meth c 23 Q cells slots hp 777 [(0, .ref b0), (1, .ref a1), (3, .ref a3), (4, .int x4), (5, .int x5), (6, .ref a6), (7, .int x7), (8, .int x8), (9, .int x9), (10, .int x10), (11, .int x11)] [] := by
  intro a1 a3 x4 x5 a6 x7 x8 x9 x10 x11 hp cells slots h hc hs
  unfold P_L_law_b777 at h
  refine l_iload (pc := 777) K 9 dL_law_777 rfl ?_
  refine l_bipush (pc := 779) (v := 8) K dL_law_779 (by decide) ?_
  refine l_icmp_ne (pc := 781) (tgt := 1025) K dL_law_781 (by decide) h (fun h => ?_) (fun h => ?_)
  · refine l_iload (pc := 1025) K 9 dL_law_1025 rfl ?_
    refine l_bipush (pc := 1027) (v := 9) K dL_law_1027 (by decide) ?_
    refine l_icmp_ne (pc := 1029) (tgt := 1125) K dL_law_1029 (by decide) h (fun h => ?_) (fun h => ?_)
    · refine l_aload_n (pc := 1125) K 1 dL_law_1125 rfl ?_
      refine l_iload (pc := 1126) K 8 dL_law_1126 rfl ?_
      refine l_iconst (pc := 1128) (v := 3) K dL_law_1128 (by decide) ?_
      refine l_irem (pc := 1129) K dL_law_1129 h (fun h => ?_)
      refine l_iload (pc := 1130) K 8 dL_law_1130 rfl ?_
      refine l_iconst (pc := 1132) (v := 4) K dL_law_1132 (by decide) ?_
      refine l_idiv (pc := 1133) K dL_law_1133 h (fun h => ?_)
      refine l_iload (pc := 1134) K 7 dL_law_1134 rfl ?_
      refine lS_bool (pc := 1136) (st := []) (As := [.ref a1, .int (irm x9 3), .int (x9 / 4), .int x8]) K (M_L_patternHolds K.2.2.2.2.2.2.1 _ _ _ _ _ _ h) dL_law_1136 ce_L_patternHolds cs_L_patternHolds lk_RL_128 rfl rfl ⟨Nat.le_trans (by decide) hR.2.2.1, Nat.le_trans (by decide) hR.2.2.2⟩ rfl rfl (Nat.le_of_ble_eq_true rfl) (by rw [hR.1]; omega) (by rw [hR.2.1]; omega) (fun v50 h50 h => ?_)
      refine l_istore_n (pc := 1139) (lv2 := [(2, .int v50), (0, .ref b0), (1, .ref a1), (3, .ref a3), (4, .int x4), (5, .int x5), (6, .ref a6), (7, .int x7), (8, .int x8), (9, .int x9), (10, .int x10), (11, .int x11)]) K dL_law_1139 (by decide) rfl ?_
      refine l_sub [1, 2, 0, 3, 4, 5, 6, 7, 11] rfl ?_
      exact B_L_law_b1140 (k0 := k0) (s0 := s0) K hR hret hX hbl hbA hK209 ⟨by omega, by omega⟩  _ _ _ _ _ _ _ _ _ _ _ h (by omega) (by omega)
    · refine l_aload_n (pc := 1032) K 1 dL_law_1032 rfl ?_
      refine l_iload (pc := 1033) K 10 dL_law_1033 rfl ?_
      refine l_iconst (pc := 1035) (v := 2) K dL_law_1035 (by decide) ?_
      refine lW_long (pc := 1036) (st := []) (As := [.ref a1, .int x11, .int 2]) K (M_L_room K.2.2.2.2.2.2.1 _ _ _ _ _ h) dL_law_1036 cw_L_room cs_L_room lw_RL_85 rfl rfl ⟨Nat.le_trans (by decide) hR.2.2.1, Nat.le_trans (by decide) hR.2.2.2⟩ rfl rfl (Nat.le_of_ble_eq_true rfl) (by rw [hR.1]; omega) (by rw [hR.2.1]; omega) (fun v51 h51 h => ?_)
      refine l_lstore (pc := 1039) (lv2 := [(12, .long v51), (0, .ref b0), (1, .ref a1), (3, .ref a3), (4, .int x4), (5, .int x5), (6, .ref a6), (7, .int x7), (8, .int x8), (9, .int x9), (10, .int x10), (11, .int x11)]) K dL_law_1039 (by decide) rfl ?_
      refine l_aload_n (pc := 1041) K 2 dL_law_1041 rfl ?_
      refine l_iload (pc := 1042) K 11 dL_law_1042 rfl ?_
      refine l_iconst (pc := 1044) (v := 4) K dL_law_1044 (by decide) ?_
      refine lW_long (pc := 1045) (st := []) (As := [.ref a1, .int x11, .int 4]) K (M_L_room K.2.2.2.2.2.2.1 _ _ _ _ _ h) dL_law_1045 cw_L_room cs_L_room lw_RL_85 rfl rfl ⟨Nat.le_trans (by decide) hR.2.2.1, Nat.le_trans (by decide) hR.2.2.2⟩ rfl rfl (Nat.le_of_ble_eq_true rfl) (by rw [hR.1]; omega) (by rw [hR.2.1]; omega) (fun v52 h52 h => ?_)
      refine l_lstore (pc := 1048) (lv2 := [(14, .long v52), (12, .long v51), (0, .ref b0), (1, .ref a1), (3, .ref a3), (4, .int x4), (5, .int x5), (6, .ref a6), (7, .int x7), (8, .int x8), (9, .int x9), (10, .int x10), (11, .int x11)]) K dL_law_1048 (by decide) rfl ?_
      refine l_aload_n (pc := 1050) K 3 dL_law_1050 rfl ?_
      refine lV_int (pc := 1051) (st := []) (As := []) (b := a1) (ci := 7) (q0 := (RX7, TX7, 8)) K (fun _ e1 => M_X7_lost K.2.2.2.2.2.2.1 _ _ _ e1) h dL_law_1051 ce_X7_lost cv_X7_lost lk_RL_103 rfl rfl rfl rfl ⟨Nat.le_trans (by decide) hR.2.2.1, Nat.le_trans (by decide) hR.2.2.2⟩ rfl rfl (Nat.le_of_ble_eq_true rfl) (by rw [hR.1]; omega) (by rw [hR.2.1]; omega) (fun v53 h53 h => ?_)
      refine l_istore (pc := 1054) (lv2 := [(16, .int v53), (14, .long v52), (12, .long v51), (0, .ref b0), (1, .ref a1), (3, .ref a3), (4, .int x4), (5, .int x5), (6, .ref a6), (7, .int x7), (8, .int x8), (9, .int x9), (10, .int x10), (11, .int x11)]) K dL_law_1054 (by decide) rfl ?_
      refine l_aload_n (pc := 1056) K 4 dL_law_1056 rfl ?_
      refine l_iload (pc := 1057) K 13 dL_law_1057 rfl ?_
      refine lW_long (pc := 1059) (st := []) (As := [.ref a1, .int x11]) K (M_L_strip K.2.2.2.2.2.2.1 _ _ _ _ h) dL_law_1059 cw_L_strip cs_L_strip lw_RL_121 rfl rfl ⟨Nat.le_trans (by decide) hR.2.2.1, Nat.le_trans (by decide) hR.2.2.2⟩ rfl rfl (Nat.le_of_ble_eq_true rfl) (by rw [hR.1]; omega) (by rw [hR.2.1]; omega) (fun v54 h54 h => ?_)
      refine l_lload (pc := 1062) K 2 dL_law_1062 rfl ?_
      refine l_lconst (pc := 1064) (v := 0) K dL_law_1064 (by decide) ?_
      refine l_lc_ge (pc := 1065) (tgt := 1075) K dL_law_1065 dL_law_1066 (by decide) h (fun h => ?_) (fun h => ?_)
      · refine l_lload (pc := 1075) K 1 dL_law_1075 rfl ?_
        refine l_sub [3, 4, 5, 6, 7, 8, 9, 13, 2, 1, 0] rfl ?_
        exact B_L_law_b1077 (k0 := k0) (s0 := s0) K hR hret hX hbl hbA hK209 ⟨by omega, by omega⟩  _ _ _ _ _ _ _ _ _ _ _ _ _ _ _ h (by omega) (by omega)
      · refine l_ldc2 (pc := 1069) (v := (-9000000000000000003)) K dL_law_1069 kl_21 ?_
        refine l_goto (pc := 1072) (tgt := 1077) K dL_law_1072 (by decide) ?_
        refine l_sub [3, 4, 5, 6, 7, 8, 9, 13, 2, 1, 0] rfl ?_
        exact B_L_law_b1077 (k0 := k0) (s0 := s0) K hR hret hX hbl hbA hK209 ⟨by omega, by omega⟩  _ _ _ _ _ _ _ _ _ _ _ _ _ _ _ h (by omega) (by omega)
  · refine l_aload_n (pc := 784) K 1 dL_law_784 rfl ?_
    refine l_iload (pc := 785) K 10 dL_law_785 rfl ?_
    refine l_iconst (pc := 787) (v := 0) K dL_law_787 (by decide) ?_
    refine lW_long (pc := 788) (st := []) (As := [.ref a1, .int x11, .int 0]) K (M_L_room K.2.2.2.2.2.2.1 _ _ _ _ _ h) dL_law_788 cw_L_room cs_L_room lw_RL_85 rfl rfl ⟨Nat.le_trans (by decide) hR.2.2.1, Nat.le_trans (by decide) hR.2.2.2⟩ rfl rfl (Nat.le_of_ble_eq_true rfl) (by rw [hR.1]; omega) (by rw [hR.2.1]; omega) (fun v55 h55 h => ?_)
    refine l_l2i (pc := 791) K dL_law_791 ?_
    refine l_istore (pc := 792) (lv2 := [(12, .int v55.toInt32), (0, .ref b0), (1, .ref a1), (3, .ref a3), (4, .int x4), (5, .int x5), (6, .ref a6), (7, .int x7), (8, .int x8), (9, .int x9), (10, .int x10), (11, .int x11)]) K dL_law_792 (by decide) rfl ?_
    refine l_iload (pc := 794) K 0 dL_law_794 rfl ?_
    refine l_if_ne (pc := 796) (tgt := 803) K dL_law_796 (by decide) h (fun h => ?_) (fun h => ?_)
    · refine l_iload (pc := 803) K 9 dL_law_803 rfl ?_
      refine l_iload (pc := 805) K 0 dL_law_805 rfl ?_
      refine l_irem (pc := 807) K dL_law_807 h (fun h => ?_)
      refine l_sub [1, 2, 3, 4, 5, 6, 7, 9, 11, 0] rfl ?_
      exact B_L_law_b808 (k0 := k0) (s0 := s0) K hR hret hX hbl hbA hK209 ⟨by omega, by omega⟩  _ _ _ _ _ _ _ _ _ _ _ _ _ h (by omega) (by omega)
    · refine l_iconst (pc := 799) (v := 0) K dL_law_799 (by decide) ?_
      refine l_goto (pc := 800) (tgt := 808) K dL_law_800 (by decide) ?_
      refine l_sub [1, 2, 3, 4, 5, 6, 7, 9, 11, 0] rfl ?_
      exact B_L_law_b808 (k0 := k0) (s0 := s0) K hR hret hX hbl hbA hK209 ⟨by omega, by omega⟩  _ _ _ _ _ _ _ _ _ _ _ _ _ h (by omega) (by omega)
set_option maxRecDepth 100000 in
set_option maxHeartbeats 4000000 in
theorem B_L_law_b209 {R : Room} {mc ms : Nat} {Q : State → Prop} {Qp : Int32 → hpT → Prop} {b0 L : Nat} {xs : Nat → Int32} (K : Cx strL D cA h0 p l s m args meth c cL_law RL 23) (hR : R.cells = mc ∧ R.slots = ms ∧ 11 ≤ R.frames ∧ 221 ≤ R.locals) (hret : ∀ (pc : Nat) (v : Int32) (hp : hpT) (cells slots : Nat) (lv : List (Nat × Value)), decode cL_law pc = .ok (.ireturn, 1) → rtZP Qp v hp → cells ≤ mc → slots ≤ ms → GL D cA h0 p l e R s m args below meth c 23 Q cells slots hp pc lv [.int v]) (hX : va_X b0 L xs s s.heap) (hbl : b0 < s.heap.size) (hbA : ¬ Af h0 b0) : ∀ (n : Nat) (a1 : Nat) (x2 : Int32) (a3 : Nat) (x4 : Int32) (x5 : Int32) (a6 : Nat) (x7 : Int32) (hp : hpT) (cells slots : Nat), P_L_law_b209 L xs n a1 x2 a3 x4 x5 a6 x7 hp Qp → cells + (n * 1732 + 0) ≤ mc → slots + (n * 10967 + 0) ≤ ms → GL D cA h0 p l e R s m args below meth c 23 Q cells slots hp 209 [(0, .ref b0), (1, .ref a1), (2, .int x2), (3, .ref a3), (4, .int x4), (5, .int x5), (6, .ref a6), (7, .int x7)] [] := by
  intro n
  induction n with
  | zero => intro a1 x2 a3 x4 x5 a6 x7 hp cells slots h; exact h.elim
  | succ n ih =>
    intro a1 x2 a3 x4 x5 a6 x7 hp cells slots h hc hs
    rw [P_L_law_b209] at h
    refine l_iload (pc := 209) K 7 dL_law_209 rfl ?_
    refine l_bipush (pc := 211) (v := 46) K dL_law_211 (by decide) ?_
    refine l_icmp_ge (pc := 213) (tgt := 1218) K dL_law_213 (by decide) h (fun h => ?_) (fun h => ?_)
    · refine l_iload_n (pc := 1218) K 2 dL_law_1218 rfl ?_
      exact hret _ _ _ _ _ _ dL_law_1219 h (by omega) (by omega)
    · refine l_iload_n (pc := 216) K 2 dL_law_216 rfl ?_
      refine l_if_eq (pc := 217) (tgt := 1218) K dL_law_217 (by decide) h (fun h => ?_) (fun h => ?_)
      · refine l_iload_n (pc := 1218) K 2 dL_law_1218 rfl ?_
        exact hret _ _ _ _ _ _ dL_law_1219 h (by omega) (by omega)
      · refine l_aload_n (pc := 220) K 0 dL_law_220 rfl ?_
        refine l_iconst (pc := 221) (v := 2) K dL_law_221 (by decide) ?_
        refine l_iload (pc := 222) K 7 dL_law_222 rfl ?_
        refine l_imul (pc := 224) K dL_law_224 ?_
        refine l_iconst (pc := 225) (v := 3) K dL_law_225 (by decide) ?_
        refine l_iadd (pc := 226) K dL_law_226 ?_
        refine l_draw (pc := 227) (st := []) K hX hbl hbA h dL_law_227 lk_RL_124 ⟨Nat.le_trans (by decide) hR.2.2.1, Nat.le_trans (by decide) hR.2.2.2⟩ (by rw [hR.1]; omega) (by rw [hR.2.1]; omega) rfl (Nat.le_of_ble_eq_true rfl) (fun v56 h => ?_)
        refine l_istore (pc := 230) (lv2 := [(8, .int v56), (0, .ref b0), (1, .ref a1), (2, .int x2), (3, .ref a3), (4, .int x4), (5, .int x5), (6, .ref a6), (7, .int x7)]) K dL_law_230 (by decide) rfl ?_
        refine l_aload_n (pc := 232) K 1 dL_law_232 rfl ?_
        refine l_iconst (pc := 233) (v := 2) K dL_law_233 (by decide) ?_
        refine l_iload (pc := 234) K 8 dL_law_234 rfl ?_
        refine l_imul (pc := 236) K dL_law_236 ?_
        refine l_iconst (pc := 237) (v := 4) K dL_law_237 (by decide) ?_
        refine l_iadd (pc := 238) K dL_law_238 ?_
        refine l_draw (pc := 239) (st := []) K hX hbl hbA h dL_law_239 lk_RL_124 ⟨Nat.le_trans (by decide) hR.2.2.1, Nat.le_trans (by decide) hR.2.2.2⟩ (by rw [hR.1]; omega) (by rw [hR.2.1]; omega) rfl (Nat.le_of_ble_eq_true rfl) (fun v57 h => ?_)
        refine l_istore (pc := 242) (lv2 := [(9, .int v57), (8, .int v56), (0, .ref b0), (1, .ref a1), (2, .int x2), (3, .ref a3), (4, .int x4), (5, .int x5), (6, .ref a6), (7, .int x7)]) K dL_law_242 (by decide) rfl ?_
        refine l_iload (pc := 244) K 1 dL_law_244 rfl ?_
        refine l_bipush (pc := 246) (v := 11) K dL_law_246 (by decide) ?_
        refine l_irem (pc := 248) K dL_law_248 h (fun h => ?_)
        refine l_istore (pc := 249) (lv2 := [(10, .int (irm v56 11)), (9, .int v57), (8, .int v56), (0, .ref b0), (1, .ref a1), (2, .int x2), (3, .ref a3), (4, .int x4), (5, .int x5), (6, .ref a6), (7, .int x7)]) K dL_law_249 (by decide) rfl ?_
        refine l_iload (pc := 251) K 2 dL_law_251 rfl ?_
        refine l_bipush (pc := 253) (v := 16) K dL_law_253 (by decide) ?_
        refine l_idiv (pc := 255) K dL_law_255 h (fun h => ?_)
        refine l_iconst (pc := 256) (v := 4) K dL_law_256 (by decide) ?_
        refine l_irem (pc := 257) K dL_law_257 h (fun h => ?_)
        refine l_istore (pc := 258) (lv2 := [(11, .int (irm (v56 / 16) 4)), (10, .int (irm v56 11)), (9, .int v57), (8, .int v56), (0, .ref b0), (1, .ref a1), (2, .int x2), (3, .ref a3), (4, .int x4), (5, .int x5), (6, .ref a6), (7, .int x7)]) K dL_law_258 (by decide) rfl ?_
        refine l_iload (pc := 260) K 1 dL_law_260 rfl ?_
        refine l_iconst (pc := 262) (v := 3) K dL_law_262 (by decide) ?_
        refine l_icmp_ge (pc := 263) (tgt := 384) K dL_law_263 (by decide) h (fun h => ?_) (fun h => ?_)
        · refine l_iload (pc := 384) K 1 dL_law_384 rfl ?_
          refine l_iconst (pc := 386) (v := 3) K dL_law_386 (by decide) ?_
          refine l_icmp_ne (pc := 387) (tgt := 507) K dL_law_387 (by decide) h (fun h => ?_) (fun h => ?_)
          · refine l_iload (pc := 507) K 1 dL_law_507 rfl ?_
            refine l_bipush (pc := 509) (v := 6) K dL_law_509 (by decide) ?_
            refine l_icmp_ge (pc := 511) (tgt := 626) K dL_law_511 (by decide) h (fun h => ?_) (fun h => ?_)
            · refine l_iload (pc := 626) K 1 dL_law_626 rfl ?_
              refine l_bipush (pc := 628) (v := 8) K dL_law_628 (by decide) ?_
              refine l_icmp_ge (pc := 630) (tgt := 777) K dL_law_630 (by decide) h (fun h => ?_) (fun h => ?_)
              · refine l_sub [4, 5, 7, 8, 9, 10, 11, 3, 2, 1, 0] rfl ?_
                exact B_L_law_b777 (k0 := n * 1732 + 0) (s0 := n * 10967 + 0) K hR hret hX hbl hbA ih ⟨by omega, by omega⟩  _ _ _ _ _ _ _ _ _ _ _ _ _ h (by omega) (by omega)
              · refine l_iload (pc := 633) K 9 dL_law_633 rfl ?_
                refine l_if_le (pc := 635) (tgt := 777) K dL_law_635 (by decide) h (fun h => ?_) (fun h => ?_)
                · refine l_sub [4, 5, 7, 8, 9, 10, 11, 3, 2, 1, 0] rfl ?_
                  exact B_L_law_b777 (k0 := n * 1732 + 0) (s0 := n * 10967 + 0) K hR hret hX hbl hbA ih ⟨by omega, by omega⟩  _ _ _ _ _ _ _ _ _ _ _ _ _ h (by omega) (by omega)
                · refine l_iload (pc := 638) K 2 dL_law_638 rfl ?_
                  refine l_iload (pc := 640) K 9 dL_law_640 rfl ?_
                  refine l_irem (pc := 642) K dL_law_642 h (fun h => ?_)
                  refine l_istore (pc := 643) (lv2 := [(12, .int (irm v57 x5)), (11, .int (irm (v56 / 16) 4)), (10, .int (irm v56 11)), (9, .int v57), (8, .int v56), (0, .ref b0), (1, .ref a1), (2, .int x2), (3, .ref a3), (4, .int x4), (5, .int x5), (6, .ref a6), (7, .int x7)]) K dL_law_643 (by decide) rfl ?_
                  refine l_aload_n (pc := 645) K 6 dL_law_645 rfl ?_
                  refine l_iload (pc := 646) K 1 dL_law_646 rfl ?_
                  refine l_iconst (pc := 648) (v := 2) K dL_law_648 (by decide) ?_
                  refine lW_long (pc := 649) (st := []) (As := [.ref a1, .int (irm (v56 / 16) 4), .int 2]) K (M_L_room K.2.2.2.2.2.2.1 _ _ _ _ _ h) dL_law_649 cw_L_room cs_L_room lw_RL_85 rfl rfl ⟨Nat.le_trans (by decide) hR.2.2.1, Nat.le_trans (by decide) hR.2.2.2⟩ rfl rfl (Nat.le_of_ble_eq_true rfl) (by rw [hR.1]; omega) (by rw [hR.2.1]; omega) (fun v58 h58 h => ?_)
                  refine l_lconst (pc := 652) (v := 0) K dL_law_652 (by decide) ?_
                  refine l_lc_ge (pc := 653) (tgt := 661) K dL_law_653 dL_law_654 (by decide) h (fun h => ?_) (fun h => ?_)
                  · refine l_iconst (pc := 661) (v := 0) K dL_law_661 (by decide) ?_
                    refine l_sub [5, 6, 8, 9, 10, 11, 12, 1, 0] rfl ?_
                    exact B_L_law_b662 (k0 := n * 1732 + 0) (s0 := n * 10967 + 0) K hR hret hX hbl hbA ih ⟨by omega, by omega⟩  _ _ _ _ _ _ _ _ _ _ _ _ h (by omega) (by omega)
                  · refine l_iconst (pc := 657) (v := 1) K dL_law_657 (by decide) ?_
                    refine l_goto (pc := 658) (tgt := 662) K dL_law_658 (by decide) ?_
                    refine l_sub [5, 6, 8, 9, 10, 11, 12, 1, 0] rfl ?_
                    exact B_L_law_b662 (k0 := n * 1732 + 0) (s0 := n * 10967 + 0) K hR hret hX hbl hbA ih ⟨by omega, by omega⟩  _ _ _ _ _ _ _ _ _ _ _ _ h (by omega) (by omega)
            · refine l_aload_n (pc := 514) K 5 dL_law_514 rfl ?_
              refine l_iload (pc := 515) K 0 dL_law_515 rfl ?_
              refine l_iconst (pc := 517) (v := 0) K dL_law_517 (by decide) ?_
              refine lW_long (pc := 518) (st := []) (As := [.ref a1, .int (irm (v56 / 16) 4), .int 0]) K (M_L_room K.2.2.2.2.2.2.1 _ _ _ _ _ h) dL_law_518 cw_L_room cs_L_room lw_RL_85 rfl rfl ⟨Nat.le_trans (by decide) hR.2.2.1, Nat.le_trans (by decide) hR.2.2.2⟩ rfl rfl (Nat.le_of_ble_eq_true rfl) (by rw [hR.1]; omega) (by rw [hR.2.1]; omega) (fun v59 h59 h => ?_)
              refine l_l2i (pc := 521) K dL_law_521 ?_
              refine l_istore (pc := 522) (lv2 := [(12, .int v59.toInt32), (11, .int (irm (v56 / 16) 4)), (10, .int (irm v56 11)), (9, .int v57), (8, .int v56), (0, .ref b0), (1, .ref a1), (2, .int x2), (3, .ref a3), (4, .int x4), (5, .int x5), (6, .ref a6), (7, .int x7)]) K dL_law_522 (by decide) rfl ?_
              refine l_aload_n (pc := 524) K 6 dL_law_524 rfl ?_
              refine l_iload (pc := 525) K 1 dL_law_525 rfl ?_
              refine l_iconst (pc := 527) (v := 2) K dL_law_527 (by decide) ?_
              refine lW_long (pc := 528) (st := []) (As := [.ref a1, .int (irm (v56 / 16) 4), .int 2]) K (M_L_room K.2.2.2.2.2.2.1 _ _ _ _ _ h) dL_law_528 cw_L_room cs_L_room lw_RL_85 rfl rfl ⟨Nat.le_trans (by decide) hR.2.2.1, Nat.le_trans (by decide) hR.2.2.2⟩ rfl rfl (Nat.le_of_ble_eq_true rfl) (by rw [hR.1]; omega) (by rw [hR.2.1]; omega) (fun v60 h60 h => ?_)
              refine l_lconst (pc := 531) (v := 0) K dL_law_531 (by decide) ?_
              refine l_lc_ge (pc := 532) (tgt := 540) K dL_law_532 dL_law_533 (by decide) h (fun h => ?_) (fun h => ?_)
              · refine l_iconst (pc := 540) (v := 0) K dL_law_540 (by decide) ?_
                refine l_sub [5, 6, 8, 9, 10, 11, 12, 3, 1, 0] rfl ?_
                exact B_L_law_b541 (k0 := n * 1732 + 0) (s0 := n * 10967 + 0) K hR hret hX hbl hbA ih ⟨by omega, by omega⟩  _ _ _ _ _ _ _ _ _ _ _ _ _ h (by omega) (by omega)
              · refine l_iconst (pc := 536) (v := 1) K dL_law_536 (by decide) ?_
                refine l_goto (pc := 537) (tgt := 541) K dL_law_537 (by decide) ?_
                refine l_sub [5, 6, 8, 9, 10, 11, 12, 3, 1, 0] rfl ?_
                exact B_L_law_b541 (k0 := n * 1732 + 0) (s0 := n * 10967 + 0) K hR hret hX hbl hbA ih ⟨by omega, by omega⟩  _ _ _ _ _ _ _ _ _ _ _ _ _ h (by omega) (by omega)
          · refine l_iload (pc := 390) K 2 dL_law_390 rfl ?_
            refine l_iload (pc := 392) K 8 dL_law_392 rfl ?_
            refine l_irem (pc := 394) K dL_law_394 h (fun h => ?_)
            refine l_istore (pc := 395) (lv2 := [(12, .int (irm v57 x4)), (11, .int (irm (v56 / 16) 4)), (10, .int (irm v56 11)), (9, .int v57), (8, .int v56), (0, .ref b0), (1, .ref a1), (2, .int x2), (3, .ref a3), (4, .int x4), (5, .int x5), (6, .ref a6), (7, .int x7)]) K dL_law_395 (by decide) rfl ?_
            refine l_bipush (pc := 397) (v := 20) K dL_law_397 (by decide) ?_
            refine l_iload (pc := 399) K 3 dL_law_399 rfl ?_
            refine l_bipush (pc := 401) (v := 8) K dL_law_401 (by decide) ?_
            refine l_idiv (pc := 403) K dL_law_403 h (fun h => ?_)
            refine l_bipush (pc := 404) (v := 120) K dL_law_404 (by decide) ?_
            refine l_irem (pc := 406) K dL_law_406 h (fun h => ?_)
            refine l_iadd (pc := 407) K dL_law_407 ?_
            refine l_istore (pc := 408) (lv2 := [(13, .int (20 + (irm (v57 / 8) 120))), (12, .int (irm v57 x4)), (11, .int (irm (v56 / 16) 4)), (10, .int (irm v56 11)), (9, .int v57), (8, .int v56), (0, .ref b0), (1, .ref a1), (2, .int x2), (3, .ref a3), (4, .int x4), (5, .int x5), (6, .ref a6), (7, .int x7)]) K dL_law_408 (by decide) rfl ?_
            refine l_aload_n (pc := 410) K 7 dL_law_410 rfl ?_
            refine l_iload (pc := 411) K 1 dL_law_411 rfl ?_
            refine l_iload (pc := 413) K 4 dL_law_413 rfl ?_
            refine l_bipush (pc := 415) (v := 10) K dL_law_415 (by decide) ?_
            refine l_irem (pc := 417) K dL_law_417 h (fun h => ?_)
            refine l_iconst (pc := 418) (v := 1) K dL_law_418 (by decide) ?_
            refine l_iload (pc := 419) K 4 dL_law_419 rfl ?_
            refine l_bipush (pc := 421) (v := 16) K dL_law_421 (by decide) ?_
            refine l_idiv (pc := 423) K dL_law_423 h (fun h => ?_)
            refine l_bipush (pc := 424) (v := 20) K dL_law_424 (by decide) ?_
            refine l_irem (pc := 426) K dL_law_426 h (fun h => ?_)
            refine l_iadd (pc := 427) K dL_law_427 ?_
            refine l_iload (pc := 428) K 0 dL_law_428 rfl ?_
            refine lW_long (pc := 430) (st := []) (As := [.ref a1, .int (irm v57 x4), .int (irm v57 10), .int (1 + (irm (v57 / 16) 20)), .int (20 + (irm (v57 / 8) 120))]) K (M_L_lot K.2.2.2.2.2.2.1 _ _ _ _ _ _ _ h) dL_law_430 cw_L_lot cs_L_lot lw_RL_113 rfl rfl ⟨Nat.le_trans (by decide) hR.2.2.1, Nat.le_trans (by decide) hR.2.2.2⟩ rfl rfl (Nat.le_of_ble_eq_true rfl) (by rw [hR.1]; omega) (by rw [hR.2.1]; omega) (fun v61 h61 h => ?_)
            refine l_lstore (pc := 433) (lv2 := [(14, .long v61), (13, .int (20 + (irm (v57 / 8) 120))), (12, .int (irm v57 x4)), (11, .int (irm (v56 / 16) 4)), (10, .int (irm v56 11)), (9, .int v57), (8, .int v56), (0, .ref b0), (1, .ref a1), (2, .int x2), (3, .ref a3), (4, .int x4), (5, .int x5), (6, .ref a6), (7, .int x7)]) K dL_law_433 (by decide) rfl ?_
            refine l_lload (pc := 435) K 0 dL_law_435 rfl ?_
            refine l_iload (pc := 437) K 12 dL_law_437 rfl ?_
            refine l_bipush (pc := 439) (v := 10) K dL_law_439 (by decide) ?_
            refine l_icmp_ne (pc := 441) (tgt := 450) K dL_law_441 (by decide) h (fun h => ?_) (fun h => ?_)
            · refine l_iload (pc := 450) K 12 dL_law_450 rfl ?_
              refine l_i2l (pc := 452) K dL_law_452 ?_
              refine l_sub [7, 8, 10, 11, 12, 13, 14, 3] rfl ?_
              exact B_L_law_b453 (k0 := n * 1732 + 0) (s0 := n * 10967 + 0) K hR hret hX hbl hbA ih ⟨by omega, by omega⟩  _ _ _ _ _ _ _ _ _ _ _ _ h (by omega) (by omega)
            · refine l_ldc2 (pc := 444) (v := (-9000000000000000003)) K dL_law_444 kl_21 ?_
              refine l_goto (pc := 447) (tgt := 453) K dL_law_447 (by decide) ?_
              refine l_sub [7, 8, 10, 11, 12, 13, 14, 3] rfl ?_
              exact B_L_law_b453 (k0 := n * 1732 + 0) (s0 := n * 10967 + 0) K hR hret hX hbl hbA ih ⟨by omega, by omega⟩  _ _ _ _ _ _ _ _ _ _ _ _ h (by omega) (by omega)
        · refine l_iload (pc := 266) K 2 dL_law_266 rfl ?_
          refine l_iconst (pc := 268) (v := 3) K dL_law_268 (by decide) ?_
          refine l_irem (pc := 269) K dL_law_269 h (fun h => ?_)
          refine l_istore (pc := 270) (lv2 := [(12, .int (irm v57 3)), (11, .int (irm (v56 / 16) 4)), (10, .int (irm v56 11)), (9, .int v57), (8, .int v56), (0, .ref b0), (1, .ref a1), (2, .int x2), (3, .ref a3), (4, .int x4), (5, .int x5), (6, .ref a6), (7, .int x7)]) K dL_law_270 (by decide) rfl ?_
          refine l_iload (pc := 272) K 3 dL_law_272 rfl ?_
          refine l_iconst (pc := 274) (v := 4) K dL_law_274 (by decide) ?_
          refine l_idiv (pc := 275) K dL_law_275 h (fun h => ?_)
          refine l_aload_n (pc := 276) K 8 dL_law_276 rfl ?_
          refine l_iconst (pc := 277) (v := 2) K dL_law_277 (by decide) ?_
          refine l_iload (pc := 278) K 0 dL_law_278 rfl ?_
          refine l_imul (pc := 280) K dL_law_280 ?_
          refine l_iald (pc := 281) K dL_law_281 h (fun v62 h => ?_)
          refine l_irem (pc := 282) K dL_law_282 h (fun h => ?_)
          refine l_istore (pc := 283) (lv2 := [(13, .int (irm (v57 / 4) v62)), (12, .int (irm v57 3)), (11, .int (irm (v56 / 16) 4)), (10, .int (irm v56 11)), (9, .int v57), (8, .int v56), (0, .ref b0), (1, .ref a1), (2, .int x2), (3, .ref a3), (4, .int x4), (5, .int x5), (6, .ref a6), (7, .int x7)]) K dL_law_283 (by decide) rfl ?_
          refine l_iload (pc := 285) K 4 dL_law_285 rfl ?_
          refine l_bipush (pc := 287) (v := 32) K dL_law_287 (by decide) ?_
          refine l_idiv (pc := 289) K dL_law_289 h (fun h => ?_)
          refine l_aload_n (pc := 290) K 9 dL_law_290 rfl ?_
          refine l_iconst (pc := 291) (v := 2) K dL_law_291 (by decide) ?_
          refine l_iload (pc := 292) K 1 dL_law_292 rfl ?_
          refine l_imul (pc := 294) K dL_law_294 ?_
          refine l_iconst (pc := 295) (v := 1) K dL_law_295 (by decide) ?_
          refine l_iadd (pc := 296) K dL_law_296 ?_
          refine l_iald (pc := 297) K dL_law_297 h (fun v63 h => ?_)
          refine l_irem (pc := 298) K dL_law_298 h (fun h => ?_)
          refine l_istore (pc := 299) (lv2 := [(14, .int (irm (v57 / 32) v63)), (13, .int (irm (v57 / 4) v62)), (12, .int (irm v57 3)), (11, .int (irm (v56 / 16) 4)), (10, .int (irm v56 11)), (9, .int v57), (8, .int v56), (0, .ref b0), (1, .ref a1), (2, .int x2), (3, .ref a3), (4, .int x4), (5, .int x5), (6, .ref a6), (7, .int x7)]) K dL_law_299 (by decide) rfl ?_
          refine l_aload_n (pc := 301) K 8 dL_law_301 rfl ?_
          refine l_iload (pc := 302) K 2 dL_law_302 rfl ?_
          refine l_iload (pc := 304) K 1 dL_law_304 rfl ?_
          refine l_iload (pc := 306) K 0 dL_law_306 rfl ?_
          refine lW_long (pc := 308) (st := []) (As := [.ref a1, .int (irm v57 3), .int (irm (v57 / 4) v62), .int (irm (v57 / 32) v63)]) K (M_L_colour K.2.2.2.2.2.2.1 _ _ _ _ _ _ h) dL_law_308 cw_L_colour cs_L_colour lw_RL_80 rfl rfl ⟨Nat.le_trans (by decide) hR.2.2.1, Nat.le_trans (by decide) hR.2.2.2⟩ rfl rfl (Nat.le_of_ble_eq_true rfl) (by rw [hR.1]; omega) (by rw [hR.2.1]; omega) (fun v64 h64 h => ?_)
          refine l_lstore (pc := 311) (lv2 := [(15, .long v64), (14, .int (irm (v57 / 32) v63)), (13, .int (irm (v57 / 4) v62)), (12, .int (irm v57 3)), (11, .int (irm (v56 / 16) 4)), (10, .int (irm v56 11)), (9, .int v57), (8, .int v56), (0, .ref b0), (1, .ref a1), (2, .int x2), (3, .ref a3), (4, .int x4), (5, .int x5), (6, .ref a6), (7, .int x7)]) K dL_law_311 (by decide) rfl ?_
          refine l_aload_n (pc := 313) K 9 dL_law_313 rfl ?_
          refine l_iload (pc := 314) K 3 dL_law_314 rfl ?_
          refine l_iload (pc := 316) K 2 dL_law_316 rfl ?_
          refine l_iload (pc := 318) K 1 dL_law_318 rfl ?_
          refine l_iload (pc := 320) K 6 dL_law_320 rfl ?_
          refine l_sipush (pc := 322) (v := 256) K dL_law_322 (by decide) ?_
          refine l_idiv (pc := 325) K dL_law_325 h (fun h => ?_)
          refine l_bipush (pc := 326) (v := 8) K dL_law_326 (by decide) ?_
          refine l_irem (pc := 328) K dL_law_328 h (fun h => ?_)
          refine lW_long (pc := 329) (st := []) (As := [.ref a1, .int (irm v57 3), .int (irm (v57 / 4) v62), .int (irm (v57 / 32) v63), .int (irm (v57 / 256) 8)]) K (M_L_paint K.2.2.2.2.2.2.1 _ _ _ _ _ _ _ h) dL_law_329 cw_L_paint cs_L_paint lw_RL_109 rfl rfl ⟨Nat.le_trans (by decide) hR.2.2.1, Nat.le_trans (by decide) hR.2.2.2⟩ rfl rfl (Nat.le_of_ble_eq_true rfl) (by rw [hR.1]; omega) (by rw [hR.2.1]; omega) (fun v65 h65 h => ?_)
          refine l_lload (pc := 332) K 0 dL_law_332 rfl ?_
          refine l_lc_ne (pc := 334) (tgt := 379) K dL_law_334 dL_law_335 (by decide) h (fun h => ?_) (fun h => ?_)
          · refine l_sub [8, 9, 11, 12, 13, 14, 15, 4] rfl ?_
            exact B_L_law_b379 (k0 := n * 1732 + 0) (s0 := n * 10967 + 0) K hR hret hX hbl hbA ih ⟨by omega, by omega⟩  _ _ _ _ _ _ _ _ _ _ h (by omega) (by omega)
          · refine l_aload_n (pc := 338) K 9 dL_law_338 rfl ?_
            refine l_iload (pc := 339) K 3 dL_law_339 rfl ?_
            refine l_iload (pc := 341) K 2 dL_law_341 rfl ?_
            refine l_iload (pc := 343) K 1 dL_law_343 rfl ?_
            refine lW_long (pc := 345) (st := []) (As := [.ref a1, .int (irm v57 3), .int (irm (v57 / 4) v62), .int (irm (v57 / 32) v63)]) K (M_L_colour K.2.2.2.2.2.2.1 _ _ _ _ _ _ h) dL_law_345 cw_L_colour cs_L_colour lw_RL_80 rfl rfl ⟨Nat.le_trans (by decide) hR.2.2.1, Nat.le_trans (by decide) hR.2.2.2⟩ rfl rfl (Nat.le_of_ble_eq_true rfl) (by rw [hR.1]; omega) (by rw [hR.2.1]; omega) (fun v66 h66 h => ?_)
            refine l_iload (pc := 348) K 6 dL_law_348 rfl ?_
            refine l_sipush (pc := 350) (v := 256) K dL_law_350 (by decide) ?_
            refine l_idiv (pc := 353) K dL_law_353 h (fun h => ?_)
            refine l_bipush (pc := 354) (v := 8) K dL_law_354 (by decide) ?_
            refine l_irem (pc := 356) K dL_law_356 h (fun h => ?_)
            refine l_i2l (pc := 357) K dL_law_357 ?_
            refine l_lc_ne (pc := 358) (tgt := 379) K dL_law_358 dL_law_359 (by decide) h (fun h => ?_) (fun h => ?_)
            · refine l_sub [8, 9, 11, 12, 13, 14, 15, 4] rfl ?_
              exact B_L_law_b379 (k0 := n * 1732 + 0) (s0 := n * 10967 + 0) K hR hret hX hbl hbA ih ⟨by omega, by omega⟩  _ _ _ _ _ _ _ _ _ _ h (by omega) (by omega)
            · refine l_aload_n (pc := 362) K 9 dL_law_362 rfl ?_
              refine l_iload (pc := 363) K 3 dL_law_363 rfl ?_
              refine l_iload (pc := 365) K 6 dL_law_365 rfl ?_
              refine l_iload (pc := 367) K 7 dL_law_367 rfl ?_
              refine lS_bool (pc := 369) (st := []) (As := [.ref a1, .int (irm v57 3), .int v57, .int v56]) K (M_L_patternHolds K.2.2.2.2.2.2.1 _ _ _ _ _ _ h) dL_law_369 ce_L_patternHolds cs_L_patternHolds lk_RL_128 rfl rfl ⟨Nat.le_trans (by decide) hR.2.2.1, Nat.le_trans (by decide) hR.2.2.2⟩ rfl rfl (Nat.le_of_ble_eq_true rfl) (by rw [hR.1]; omega) (by rw [hR.2.1]; omega) (fun v67 h67 h => ?_)
              refine l_if_eq (pc := 372) (tgt := 379) K dL_law_372 (by decide) h (fun h => ?_) (fun h => ?_)
              · refine l_sub [8, 9, 11, 12, 13, 14, 15, 4] rfl ?_
                exact B_L_law_b379 (k0 := n * 1732 + 0) (s0 := n * 10967 + 0) K hR hret hX hbl hbA ih ⟨by omega, by omega⟩  _ _ _ _ _ _ _ _ _ _ h (by omega) (by omega)
              · refine l_iconst (pc := 375) (v := 1) K dL_law_375 (by decide) ?_
                refine l_goto (pc := 376) (tgt := 380) K dL_law_376 (by decide) ?_
                refine l_sub [8, 9, 11, 12, 13, 14, 15, 4] rfl ?_
                exact B_L_law_b380 (k0 := n * 1732 + 0) (s0 := n * 10967 + 0) K hR hret hX hbl hbA ih ⟨by omega, by omega⟩  _ _ _ _ _ _ _ _ _ _ _ h (by omega) (by omega)
set_option maxRecDepth 100000 in
set_option maxHeartbeats 4000000 in
theorem B_L_law_b197 {R : Room} {mc ms : Nat} {Q : State → Prop} {Qp : Int32 → hpT → Prop} {b0 L : Nat} {xs : Nat → Int32} (K : Cx strL D cA h0 p l s m args meth c cL_law RL 23) (hR : R.cells = mc ∧ R.slots = ms ∧ 11 ≤ R.frames ∧ 221 ≤ R.locals) (hret : ∀ (pc : Nat) (v : Int32) (hp : hpT) (cells slots : Nat) (lv : List (Nat × Value)), decode cL_law pc = .ok (.ireturn, 1) → rtZP Qp v hp → cells ≤ mc → slots ≤ ms → GL D cA h0 p l e R s m args below meth c 23 Q cells slots hp pc lv [.int v]) (hX : va_X b0 L xs s s.heap) (hbl : b0 < s.heap.size) (hbA : ¬ Af h0 b0) : ∀ (a1 : Nat) (x2 : Int32) (a3 : Nat) (x4 : Int32) (hp : hpT) (cells slots : Nat), P_L_law_b197 L xs a1 x2 a3 x4 hp Qp → cells + (81405) ≤ mc → slots + (515465) ≤ ms → GL D cA h0 p l e R s m args below meth c 23 Q cells slots hp 197 [(0, .ref b0), (1, .ref a1), (2, .int x2), (3, .ref a3), (4, .int x4)] [] := by
  intro a1 x2 a3 x4 hp cells slots h hc hs
  unfold P_L_law_b197 at h
  refine l_iconst (pc := 197) (v := 0) K dL_law_197 (by decide) ?_
  refine l_istore (pc := 198) (lv2 := [(5, .int 0), (0, .ref b0), (1, .ref a1), (2, .int x2), (3, .ref a3), (4, .int x4)]) K dL_law_198 (by decide) rfl ?_
  refine l_bipush (pc := 200) (v := 16) K dL_law_200 (by decide) ?_
  refine l_newI (pc := 202) (N := 16) K dL_law_202 ac_int (by decide) (by decide) (by decide) (by rw [hR.1]; omega) (by rw [hR.2.1]; omega) h (fun a68 h68 h => ?_)
  refine l_astore (pc := 204) (lv2 := [(6, .ref a68), (5, .int 0), (0, .ref b0), (1, .ref a1), (2, .int x2), (3, .ref a3), (4, .int x4)]) K dL_law_204 (by decide) rfl ?_
  refine l_iconst (pc := 206) (v := 0) K dL_law_206 (by decide) ?_
  refine l_istore (pc := 207) (lv2 := [(7, .int 0), (6, .ref a68), (5, .int 0), (0, .ref b0), (1, .ref a1), (2, .int x2), (3, .ref a3), (4, .int x4)]) K dL_law_207 (by decide) rfl ?_
  refine l_sub [3, 4, 5, 6, 7, 2, 1, 0] rfl ?_
  exact B_L_law_b209 K hR hret hX hbl hbA 47 _ _ _ _ _ _ _ _ _ _ h (by omega) (by omega)
set_option maxRecDepth 100000 in
set_option maxHeartbeats 4000000 in
theorem B_L_law_b135 {R : Room} {mc ms : Nat} {ac az : Nat} {Q : State → Prop} {Qp : Int32 → hpT → Prop} {b0 L : Nat} {xs : Nat → Int32} (K : Cx strL D cA h0 p l s m args meth c cL_law RL 23) (hR : R.cells = mc ∧ R.slots = ms ∧ 11 ≤ R.frames ∧ 221 ≤ R.locals) (hret : ∀ (pc : Nat) (v : Int32) (hp : hpT) (cells slots : Nat) (lv : List (Nat × Value)), decode cL_law pc = .ok (.ireturn, 1) → rtZP Qp v hp → cells ≤ mc → slots ≤ ms → GL D cA h0 p l e R s m args below meth c 23 Q cells slots hp pc lv [.int v]) (hX : va_X b0 L xs s s.heap) (hbl : b0 < s.heap.size) (hbA : ¬ Af h0 b0) (hAc : 81405 ≤ ac ∧ 515465 ≤ az) : ∀ (n : Nat) (a1 : Nat) (x2 : Int32) (a3 : Nat) (x4 : Int32) (x5 : Int32) (hp : hpT) (cells slots : Nat), P_L_law_b135 L xs n a1 x2 a3 x4 x5 hp Qp → cells + (n * 6 + ac) ≤ mc → slots + (n * 123 + az) ≤ ms → GL D cA h0 p l e R s m args below meth c 23 Q cells slots hp 135 [(0, .ref b0), (1, .ref a1), (2, .int x2), (3, .ref a3), (4, .int x4), (5, .int x5)] [] := by
  intro n
  induction n with
  | zero => intro a1 x2 a3 x4 x5 hp cells slots h; exact h.elim
  | succ n ih =>
    intro a1 x2 a3 x4 x5 hp cells slots h hc hs
    rw [P_L_law_b135] at h
    refine l_iload (pc := 135) K 5 dL_law_135 rfl ?_
    refine l_bipush (pc := 137) (v := 6) K dL_law_137 (by decide) ?_
    refine l_icmp_ge (pc := 139) (tgt := 197) K dL_law_139 (by decide) h (fun h => ?_) (fun h => ?_)
    · refine l_sub [0, 1, 2, 3, 4] rfl ?_
      exact B_L_law_b197 K hR hret hX hbl hbA  _ _ _ _ _ _ _ h (by omega) (by omega)
    · refine l_iload_n (pc := 142) K 2 dL_law_142 rfl ?_
      refine l_if_eq (pc := 143) (tgt := 197) K dL_law_143 (by decide) h (fun h => ?_) (fun h => ?_)
      · refine l_sub [0, 1, 2, 3, 4] rfl ?_
        exact B_L_law_b197 K hR hret hX hbl hbA  _ _ _ _ _ _ _ h (by omega) (by omega)
      · refine l_aload_n (pc := 146) K 1 dL_law_146 rfl ?_
        refine l_iload (pc := 147) K 5 dL_law_147 rfl ?_
        refine l_iconst (pc := 149) (v := 3) K dL_law_149 (by decide) ?_
        refine l_irem (pc := 150) K dL_law_150 h (fun h => ?_)
        refine l_iconst (pc := 151) (v := 1) K dL_law_151 (by decide) ?_
        refine lW_long (pc := 152) (st := []) (As := [.ref a1, .int (irm x5 3), .int 1]) K (M_L_repeat K.2.2.2.2.2.2.1 _ _ _ _ _ h) dL_law_152 cw_L_repeat cs_L_repeat lw_RL_73 rfl rfl ⟨Nat.le_trans (by decide) hR.2.2.1, Nat.le_trans (by decide) hR.2.2.2⟩ rfl rfl (Nat.le_of_ble_eq_true rfl) (by rw [hR.1]; omega) (by rw [hR.2.1]; omega) (fun v69 h69 h => ?_)
        refine l_l2i (pc := 155) K dL_law_155 ?_
        refine l_iconst (pc := 156) (v := 1) K dL_law_156 (by decide) ?_
        refine l_iload (pc := 157) K 5 dL_law_157 rfl ?_
        refine l_iconst (pc := 159) (v := 3) K dL_law_159 (by decide) ?_
        refine l_idiv (pc := 160) K dL_law_160 h (fun h => ?_)
        refine l_iadd (pc := 161) K dL_law_161 ?_
        refine l_imul (pc := 162) K dL_law_162 ?_
        refine l_istore (pc := 163) (lv2 := [(6, .int (v69.toInt32 * (1 + (x5 / 3)))), (0, .ref b0), (1, .ref a1), (2, .int x2), (3, .ref a3), (4, .int x4), (5, .int x5)]) K dL_law_163 (by decide) rfl ?_
        refine l_aload_n (pc := 165) K 2 dL_law_165 rfl ?_
        refine l_iload (pc := 166) K 6 dL_law_166 rfl ?_
        refine l_iconst (pc := 168) (v := 3) K dL_law_168 (by decide) ?_
        refine l_irem (pc := 169) K dL_law_169 h (fun h => ?_)
        refine l_iload (pc := 170) K 0 dL_law_170 rfl ?_
        refine lW_long (pc := 172) (st := []) (As := [.ref a1, .int (irm x5 3), .int (v69.toInt32 * (1 + (x5 / 3)))]) K (M_L_roller K.2.2.2.2.2.2.1 _ _ _ _ _ h) dL_law_172 cw_L_roller cs_L_roller lw_RL_111 rfl rfl ⟨Nat.le_trans (by decide) hR.2.2.1, Nat.le_trans (by decide) hR.2.2.2⟩ rfl rfl (Nat.le_of_ble_eq_true rfl) (by rw [hR.1]; omega) (by rw [hR.2.1]; omega) (fun v70 h70 h => ?_)
        refine l_iload (pc := 175) K 6 dL_law_175 rfl ?_
        refine l_i2l (pc := 177) K dL_law_177 ?_
        refine l_lc_ne (pc := 178) (tgt := 186) K dL_law_178 dL_law_179 (by decide) h (fun h => ?_) (fun h => ?_)
        · refine l_iconst (pc := 186) (v := 0) K dL_law_186 (by decide) ?_
          refine l_sub [1, 2, 4, 5, 6] rfl ?_
          exact B_L_law_b187 (k0 := n * 6 + ac) (s0 := n * 123 + az) K hR hret hX hbl hbA ih ⟨by omega, by omega⟩  _ _ _ _ _ _ _ _ h (by omega) (by omega)
        · refine l_iconst (pc := 182) (v := 1) K dL_law_182 (by decide) ?_
          refine l_goto (pc := 183) (tgt := 187) K dL_law_183 (by decide) ?_
          refine l_sub [1, 2, 4, 5, 6] rfl ?_
          exact B_L_law_b187 (k0 := n * 6 + ac) (s0 := n * 123 + az) K hR hret hX hbl hbA ih ⟨by omega, by omega⟩  _ _ _ _ _ _ _ _ h (by omega) (by omega)
set_option maxRecDepth 100000 in
set_option maxHeartbeats 4000000 in
theorem B_L_law_b129 {R : Room} {mc ms : Nat} {Q : State → Prop} {Qp : Int32 → hpT → Prop} {b0 L : Nat} {xs : Nat → Int32} (K : Cx strL D cA h0 p l s m args meth c cL_law RL 23) (hR : R.cells = mc ∧ R.slots = ms ∧ 11 ≤ R.frames ∧ 221 ≤ R.locals) (hret : ∀ (pc : Nat) (v : Int32) (hp : hpT) (cells slots : Nat) (lv : List (Nat × Value)), decode cL_law pc = .ok (.ireturn, 1) → rtZP Qp v hp → cells ≤ mc → slots ≤ ms → GL D cA h0 p l e R s m args below meth c 23 Q cells slots hp pc lv [.int v]) (hX : va_X b0 L xs s s.heap) (hbl : b0 < s.heap.size) (hbA : ¬ Af h0 b0) : ∀ (a1 : Nat) (x2 : Int32) (a3 : Nat) (hp : hpT) (cells slots : Nat), P_L_law_b129 L xs a1 x2 a3 hp Qp → cells + (81447) ≤ mc → slots + (516326) ≤ ms → GL D cA h0 p l e R s m args below meth c 23 Q cells slots hp 129 [(0, .ref b0), (1, .ref a1), (2, .int x2), (3, .ref a3)] [] := by
  intro a1 x2 a3 hp cells slots h hc hs
  unfold P_L_law_b129 at h
  refine l_iconst (pc := 129) (v := 0) K dL_law_129 (by decide) ?_
  refine l_istore (pc := 130) (lv2 := [(4, .int 0), (0, .ref b0), (1, .ref a1), (2, .int x2), (3, .ref a3)]) K dL_law_130 (by decide) rfl ?_
  refine l_iconst (pc := 132) (v := 0) K dL_law_132 (by decide) ?_
  refine l_istore (pc := 133) (lv2 := [(5, .int 0), (4, .int 0), (0, .ref b0), (1, .ref a1), (2, .int x2), (3, .ref a3)]) K dL_law_133 (by decide) rfl ?_
  refine l_sub [2, 3, 4, 5, 1, 0] rfl ?_
  exact B_L_law_b135 (ac := 81405) (az := 515465) K hR hret hX hbl hbA ⟨Nat.le_refl _, Nat.le_refl _⟩ 7 _ _ _ _ _ _ _ _ h (by omega) (by omega)
set_option maxRecDepth 100000 in
set_option maxHeartbeats 4000000 in
theorem B_L_law_b18 {R : Room} {mc ms : Nat} {ac az : Nat} {Q : State → Prop} {Qp : Int32 → hpT → Prop} {b0 L : Nat} {xs : Nat → Int32} (K : Cx strL D cA h0 p l s m args meth c cL_law RL 23) (hR : R.cells = mc ∧ R.slots = ms ∧ 11 ≤ R.frames ∧ 221 ≤ R.locals) (hret : ∀ (pc : Nat) (v : Int32) (hp : hpT) (cells slots : Nat) (lv : List (Nat × Value)), decode cL_law pc = .ok (.ireturn, 1) → rtZP Qp v hp → cells ≤ mc → slots ≤ ms → GL D cA h0 p l e R s m args below meth c 23 Q cells slots hp pc lv [.int v]) (hX : va_X b0 L xs s s.heap) (hbl : b0 < s.heap.size) (hbA : ¬ Af h0 b0) (hAc : 81447 ≤ ac ∧ 516326 ≤ az) : ∀ (n : Nat) (a1 : Nat) (x2 : Int32) (a3 : Nat) (x4 : Int32) (hp : hpT) (cells slots : Nat), P_L_law_b18 L xs n a1 x2 a3 x4 hp Qp → cells + (n * 6 + ac) ≤ mc → slots + (n * 125 + az) ≤ ms → GL D cA h0 p l e R s m args below meth c 23 Q cells slots hp 18 [(0, .ref b0), (1, .ref a1), (2, .int x2), (3, .ref a3), (4, .int x4)] [] := by
  intro n
  induction n with
  | zero => intro a1 x2 a3 x4 hp cells slots h; exact h.elim
  | succ n ih =>
    intro a1 x2 a3 x4 hp cells slots h hc hs
    rw [P_L_law_b18] at h
    refine l_iload (pc := 18) K 4 dL_law_18 rfl ?_
    refine l_iconst (pc := 20) (v := 3) K dL_law_20 (by decide) ?_
    refine l_icmp_ge (pc := 21) (tgt := 129) K dL_law_21 (by decide) h (fun h => ?_) (fun h => ?_)
    · refine l_sub [0, 1, 2, 3] rfl ?_
      exact B_L_law_b129 K hR hret hX hbl hbA  _ _ _ _ _ _ h (by omega) (by omega)
    · refine l_iload_n (pc := 24) K 2 dL_law_24 rfl ?_
      refine l_if_eq (pc := 25) (tgt := 129) K dL_law_25 (by decide) h (fun h => ?_) (fun h => ?_)
      · refine l_sub [0, 1, 2, 3] rfl ?_
        exact B_L_law_b129 K hR hret hX hbl hbA  _ _ _ _ _ _ h (by omega) (by omega)
      · refine l_aload_n (pc := 28) K 0 dL_law_28 rfl ?_
        refine l_iload (pc := 29) K 4 dL_law_29 rfl ?_
        refine l_draw (pc := 31) (st := []) K hX hbl hbA h dL_law_31 lk_RL_124 ⟨Nat.le_trans (by decide) hR.2.2.1, Nat.le_trans (by decide) hR.2.2.2⟩ (by rw [hR.1]; omega) (by rw [hR.2.1]; omega) rfl (Nat.le_of_ble_eq_true rfl) (fun v71 h => ?_)
        refine l_istore (pc := 34) (lv2 := [(5, .int v71), (0, .ref b0), (1, .ref a1), (2, .int x2), (3, .ref a3), (4, .int x4)]) K dL_law_34 (by decide) rfl ?_
        refine l_aload_n (pc := 36) K 4 dL_law_36 rfl ?_
        refine l_iconst (pc := 37) (v := 2) K dL_law_37 (by decide) ?_
        refine l_iload (pc := 38) K 5 dL_law_38 rfl ?_
        refine l_imul (pc := 40) K dL_law_40 ?_
        refine l_iconst (pc := 41) (v := 1) K dL_law_41 (by decide) ?_
        refine l_iload (pc := 42) K 0 dL_law_42 rfl ?_
        refine l_iconst (pc := 44) (v := 5) K dL_law_44 (by decide) ?_
        refine l_irem (pc := 45) K dL_law_45 h (fun h => ?_)
        refine l_iadd (pc := 46) K dL_law_46 ?_
        refine l_iast (pc := 47) K dL_law_47 h (fun h72 h => ?_)
        refine l_iload (pc := 48) K 0 dL_law_48 rfl ?_
        refine l_bipush (pc := 50) (v := 8) K dL_law_50 (by decide) ?_
        refine l_idiv (pc := 52) K dL_law_52 h (fun h => ?_)
        refine l_bipush (pc := 53) (v := 6) K dL_law_53 (by decide) ?_
        refine l_irem (pc := 55) K dL_law_55 h (fun h => ?_)
        refine l_istore (pc := 56) (lv2 := [(6, .int (irm (v71 / 8) 6)), (5, .int v71), (0, .ref b0), (1, .ref a1), (2, .int x2), (3, .ref a3), (4, .int x4)]) K dL_law_56 (by decide) rfl ?_
        refine l_aload_n (pc := 58) K 5 dL_law_58 rfl ?_
        refine l_iconst (pc := 59) (v := 2) K dL_law_59 (by decide) ?_
        refine l_iload (pc := 60) K 6 dL_law_60 rfl ?_
        refine l_imul (pc := 62) K dL_law_62 ?_
        refine l_iconst (pc := 63) (v := 1) K dL_law_63 (by decide) ?_
        refine l_iadd (pc := 64) K dL_law_64 ?_
        refine l_iload (pc := 65) K 0 dL_law_65 rfl ?_
        refine l_iconst (pc := 67) (v := 5) K dL_law_67 (by decide) ?_
        refine l_icmp_ne (pc := 68) (tgt := 80) K dL_law_68 (by decide) h (fun h => ?_) (fun h => ?_)
        · refine l_iconst (pc := 80) (v := 1) K dL_law_80 (by decide) ?_
          refine l_iload (pc := 81) K 1 dL_law_81 rfl ?_
          refine l_bipush (pc := 83) (v := 64) K dL_law_83 (by decide) ?_
          refine l_idiv (pc := 85) K dL_law_85 h (fun h => ?_)
          refine l_iconst (pc := 86) (v := 5) K dL_law_86 (by decide) ?_
          refine l_irem (pc := 87) K dL_law_87 h (fun h => ?_)
          refine l_iadd (pc := 88) K dL_law_88 ?_
          refine l_sub [2, 3, 5, 6, 0] rfl ?_
          exact B_L_law_b89 (k0 := n * 6 + ac) (s0 := n * 125 + az) K hR hret hX hbl hbA ih ⟨by omega, by omega⟩  _ _ _ _ _ _ _ _ _ _ h (by omega) (by omega)
        · refine l_aload_n (pc := 71) K 5 dL_law_71 rfl ?_
          refine l_iconst (pc := 72) (v := 2) K dL_law_72 (by decide) ?_
          refine l_iload (pc := 73) K 6 dL_law_73 rfl ?_
          refine l_imul (pc := 75) K dL_law_75 ?_
          refine l_iald (pc := 76) K dL_law_76 h (fun v73 h => ?_)
          refine l_goto (pc := 77) (tgt := 89) K dL_law_77 (by decide) ?_
          refine l_sub [2, 3, 5, 6, 0] rfl ?_
          exact B_L_law_b89 (k0 := n * 6 + ac) (s0 := n * 125 + az) K hR hret hX hbl hbA ih ⟨by omega, by omega⟩  _ _ _ _ _ _ _ _ _ _ h (by omega) (by omega)
set_option maxRecDepth 100000 in
set_option maxHeartbeats 4000000 in
theorem B_L_law_b0 {R : Room} {mc ms : Nat} {Q : State → Prop} {Qp : Int32 → hpT → Prop} {b0 L : Nat} {xs : Nat → Int32} (K : Cx strL D cA h0 p l s m args meth c cL_law RL 23) (hR : R.cells = mc ∧ R.slots = ms ∧ 11 ≤ R.frames ∧ 221 ≤ R.locals) (hret : ∀ (pc : Nat) (v : Int32) (hp : hpT) (cells slots : Nat) (lv : List (Nat × Value)), decode cL_law pc = .ok (.ireturn, 1) → rtZP Qp v hp → cells ≤ mc → slots ≤ ms → GL D cA h0 p l e R s m args below meth c 23 Q cells slots hp pc lv [.int v]) (hX : va_X b0 L xs s s.heap) (hbl : b0 < s.heap.size) (hbA : ¬ Af h0 b0) : ∀ (hp : hpT) (cells slots : Nat), P_L_law_b0 L xs  hp Qp → cells + (81505) ≤ mc → slots + (517113) ≤ ms → GL D cA h0 p l e R s m args below meth c 23 Q cells slots hp 0 [(0, .ref b0)] [] := by
  intro  hp cells slots h hc hs
  unfold P_L_law_b0 at h
  refine l_new (pc := 0) K dL_law_0 cl_RL_10 nw_7 (by rw [hR.1]; omega) (by rw [hR.2.1]; omega) h (fun a74 h74 h => ?_)
  refine l_dup (pc := 3) K dL_law_3 ?_
  refine lI_void (pc := 4) (st := [.ref a74]) (As := []) (b := a74) K (fun _ e1 => M_X7_init K.2.2.2.2.2.2.1 _ _ _ e1) h dL_law_4 ce_X7_init ci_X7_init lk_RL_123 rfl rfl ⟨Nat.le_trans (by decide) hR.2.2.1, Nat.le_trans (by decide) hR.2.2.2⟩ rfl rfl (Nat.le_of_ble_eq_true rfl) (by rw [hR.1]; omega) (by rw [hR.2.1]; omega) (fun h75 h => ?_)
  refine l_astore_n (pc := 7) (lv2 := [(1, .ref a74), (0, .ref b0)]) K dL_law_7 (by decide) rfl ?_
  refine l_iconst (pc := 8) (v := 1) K dL_law_8 (by decide) ?_
  refine l_istore_n (pc := 9) (lv2 := [(2, .int 1), (1, .ref a74), (0, .ref b0)]) K dL_law_9 (by decide) rfl ?_
  refine l_bipush (pc := 10) (v := 6) K dL_law_10 (by decide) ?_
  refine l_newI (pc := 12) (N := 6) K dL_law_12 ac_int (by decide) (by decide) (by decide) (by rw [hR.1]; omega) (by rw [hR.2.1]; omega) h (fun a76 h76 h => ?_)
  refine l_astore_n (pc := 14) (lv2 := [(3, .ref a76), (2, .int 1), (1, .ref a74), (0, .ref b0)]) K dL_law_14 (by decide) rfl ?_
  refine l_iconst (pc := 15) (v := 0) K dL_law_15 (by decide) ?_
  refine l_istore (pc := 16) (lv2 := [(4, .int 0), (3, .ref a76), (2, .int 1), (1, .ref a74), (0, .ref b0)]) K dL_law_16 (by decide) rfl ?_
  refine l_sub [4, 3, 2, 1, 0] rfl ?_
  exact B_L_law_b18 (ac := 81447) (az := 516326) K hR hret hX hbl hbA ⟨Nat.le_refl _, Nat.le_refl _⟩ 4 _ _ _ _ _ _ _ h (by omega) (by omega)
end
