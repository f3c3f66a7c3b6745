/-! the machine does what the propositions say: L_patternHolds L_lotHigh L_roomHolds L_refuses -/
section
variable {D : va_G} {cA : Nat → ClassId} {h0 : Nat} {p : Program} {l : Launch} {e : Env} {s : State} {m : MethodId} {args : Array Value} {below : List Frame} {meth : Method} {c : Code}
def rm_L_patternHolds : Room := { frames := 9, cells := 49, slots := 294, locals := 186 }
set_option maxRecDepth 100000 in
set_option maxHeartbeats 4000000 in
theorem B_L_patternHolds_b238 {R : Room} {mc ms : Nat} {k0 s0 : Nat} {Q : State → Prop} {Qp : Int32 → hpT → Prop} (K : Cx strL D cA h0 p l s m args meth c cL_patternHolds RL 16) (hR : R.cells = mc ∧ R.slots = ms ∧ 9 ≤ R.frames ∧ 186 ≤ R.locals) (hret : ∀ (pc : Nat) (v : Int32) (hp : hpT) (cells slots : Nat) (lv : List (Nat × Value)), decode cL_patternHolds pc = .ok (.ireturn, 1) → rtZP Qp v hp → cells ≤ mc → slots ≤ ms → GL D cA h0 p l e R s m args below meth c 16 Q cells slots hp pc lv [.int v]) {K92 : Nat → Int32 → Int32 → Int32 → Int32 → Int32 → Int64 → Int64 → Int32 → Int32 → hpT → (Int32 → hpT → Prop) → Prop} (hK92 : ∀ (a0 : Nat) (x1 : Int32) (x2 : Int32) (x3 : Int32) (x4 : Int32) (x5 : Int32) (y6 : Int64) (y8 : Int64) (x10 : Int32) (x11 : Int32) (hp : hpT) (cells slots : Nat), K92 a0 x1 x2 x3 x4 x5 y6 y8 x10 x11 hp Qp → cells + k0 ≤ mc → slots + s0 ≤ ms → GL D cA h0 p l e R s m args below meth c 16 Q cells slots hp 92 [(0, .ref a0), (1, .int x1), (2, .int x2), (3, .int x3), (4, .int x4), (5, .int x5), (6, .long y6), (8, .long y8), (10, .int x10), (11, .int x11)] []) (hA92 : 0 ≤ k0 ∧ 0 ≤ s0) : ∀ (a0 : Nat) (x1 : Int32) (x2 : Int32) (x3 : Int32) (x4 : Int32) (x5 : Int32) (y6 : Int64) (y8 : Int64) (x11 : Int32) (xs0 : Int32) (hp : hpT) (cells slots : Nat), P_L_patternHolds_b238 K92 a0 x1 x2 x3 x4 x5 y6 y8 x11 xs0 hp Qp → cells + (0 + k0) ≤ mc → slots + (0 + s0) ≤ ms → GL D cA h0 p l e R s m args below meth c 16 Q cells slots hp 238 [(0, .ref a0), (1, .int x1), (2, .int x2), (3, .int x3), (4, .int x4), (5, .int x5), (6, .long y6), (8, .long y8), (11, .int x11)] [.int xs0] := by
  intro a0 x1 x2 x3 x4 x5 y6 y8 x11 xs0 hp cells slots h hc hs
  unfold P_L_patternHolds_b238 at h
  refine l_istore (pc := 238) (lv2 := [(10, .int xs0), (0, .ref a0), (1, .int x1), (2, .int x2), (3, .int x3), (4, .int x4), (5, .int x5), (6, .long y6), (8, .long y8), (11, .int x11)]) K dL_patternHolds_238 (by decide) rfl ?_
  refine l_iinc (pc := 240) (v := (x11 + 1)) (lv2 := [(11, .int (x11 + 1)), (10, .int xs0), (0, .ref a0), (1, .int x1), (2, .int x2), (3, .int x3), (4, .int x4), (5, .int x5), (6, .long y6), (8, .long y8)]) K 9 dL_patternHolds_240 rfl rfl (by decide) rfl ?_
  refine l_goto (pc := 243) (tgt := 92) K dL_patternHolds_243 (by decide) ?_
  refine l_sub [2, 3, 4, 5, 6, 7, 8, 9, 1, 0] rfl ?_
  exact hK92 _ _ _ _ _ _ _ _ _ _ _ _ _ h (by omega) (by omega)
set_option maxRecDepth 100000 in
set_option maxHeartbeats 4000000 in
theorem B_L_patternHolds_b237 {R : Room} {mc ms : Nat} {k0 s0 : Nat} {Q : State → Prop} {Qp : Int32 → hpT → Prop} (K : Cx strL D cA h0 p l s m args meth c cL_patternHolds RL 16) (hR : R.cells = mc ∧ R.slots = ms ∧ 9 ≤ R.frames ∧ 186 ≤ R.locals) (hret : ∀ (pc : Nat) (v : Int32) (hp : hpT) (cells slots : Nat) (lv : List (Nat × Value)), decode cL_patternHolds pc = .ok (.ireturn, 1) → rtZP Qp v hp → cells ≤ mc → slots ≤ ms → GL D cA h0 p l e R s m args below meth c 16 Q cells slots hp pc lv [.int v]) {K92 : Nat → Int32 → Int32 → Int32 → Int32 → Int32 → Int64 → Int64 → Int32 → Int32 → hpT → (Int32 → hpT → Prop) → Prop} (hK92 : ∀ (a0 : Nat) (x1 : Int32) (x2 : Int32) (x3 : Int32) (x4 : Int32) (x5 : Int32) (y6 : Int64) (y8 : Int64) (x10 : Int32) (x11 : Int32) (hp : hpT) (cells slots : Nat), K92 a0 x1 x2 x3 x4 x5 y6 y8 x10 x11 hp Qp → cells + k0 ≤ mc → slots + s0 ≤ ms → GL D cA h0 p l e R s m args below meth c 16 Q cells slots hp 92 [(0, .ref a0), (1, .int x1), (2, .int x2), (3, .int x3), (4, .int x4), (5, .int x5), (6, .long y6), (8, .long y8), (10, .int x10), (11, .int x11)] []) (hA92 : 0 ≤ k0 ∧ 0 ≤ s0) : ∀ (a0 : Nat) (x1 : Int32) (x2 : Int32) (x3 : Int32) (x4 : Int32) (x5 : Int32) (y6 : Int64) (y8 : Int64) (x11 : Int32) (hp : hpT) (cells slots : Nat), P_L_patternHolds_b237 K92 a0 x1 x2 x3 x4 x5 y6 y8 x11 hp Qp → cells + (0 + k0) ≤ mc → slots + (0 + s0) ≤ ms → GL D cA h0 p l e R s m args below meth c 16 Q cells slots hp 237 [(0, .ref a0), (1, .int x1), (2, .int x2), (3, .int x3), (4, .int x4), (5, .int x5), (6, .long y6), (8, .long y8), (11, .int x11)] [] := by
  intro a0 x1 x2 x3 x4 x5 y6 y8 x11 hp cells slots h hc hs
  unfold P_L_patternHolds_b237 at h
  refine l_iconst (pc := 237) (v := 0) K dL_patternHolds_237 (by decide) ?_
  exact B_L_patternHolds_b238 (k0 := k0) (s0 := s0) K hR hret hK92 ⟨by omega, by omega⟩  _ _ _ _ _ _ _ _ _ _ _ _ _ h (by omega) (by omega)
set_option maxRecDepth 100000 in
set_option maxHeartbeats 4000000 in
theorem B_L_patternHolds_b92 {R : Room} {mc ms : Nat} {Q : State → Prop} {Qp : Int32 → hpT → Prop} (K : Cx strL D cA h0 p l s m args meth c cL_patternHolds RL 16) (hR : R.cells = mc ∧ R.slots = ms ∧ 9 ≤ R.frames ∧ 186 ≤ R.locals) (hret : ∀ (pc : Nat) (v : Int32) (hp : hpT) (cells slots : Nat) (lv : List (Nat × Value)), decode cL_patternHolds pc = .ok (.ireturn, 1) → rtZP Qp v hp → cells ≤ mc → slots ≤ ms → GL D cA h0 p l e R s m args below meth c 16 Q cells slots hp pc lv [.int v]) : ∀ (n : Nat) (a0 : Nat) (x1 : Int32) (x2 : Int32) (x3 : Int32) (x4 : Int32) (x5 : Int32) (y6 : Int64) (y8 : Int64) (x10 : Int32) (x11 : Int32) (hp : hpT) (cells slots : Nat), P_L_patternHolds_b92 n a0 x1 x2 x3 x4 x5 y6 y8 x10 x11 hp Qp → cells + (n * 5 + 0) ≤ mc → slots + (n * 30 + 0) ≤ ms → GL D cA h0 p l e R s m args below meth c 16 Q cells slots hp 92 [(0, .ref a0), (1, .int x1), (2, .int x2), (3, .int x3), (4, .int x4), (5, .int x5), (6, .long y6), (8, .long y8), (10, .int x10), (11, .int x11)] [] := by
  intro n
  induction n with
  | zero => intro a0 x1 x2 x3 x4 x5 y6 y8 x10 x11 hp cells slots h; exact h.elim
  | succ n ih =>
    intro a0 x1 x2 x3 x4 x5 y6 y8 x10 x11 hp cells slots h hc hs
    rw [P_L_patternHolds_b92] at h
    refine l_iload (pc := 92) K 9 dL_patternHolds_92 rfl ?_
    refine l_bipush (pc := 94) (v := 8) K dL_patternHolds_94 (by decide) ?_
    refine l_icmp_ge (pc := 96) (tgt := 246) K dL_patternHolds_96 (by decide) h (fun h => ?_) (fun h => ?_)
    · refine l_iload (pc := 246) K 8 dL_patternHolds_246 rfl ?_
      exact hret _ _ _ _ _ _ dL_patternHolds_248 h (by omega) (by omega)
    · refine l_iload (pc := 99) K 8 dL_patternHolds_99 rfl ?_
      refine l_if_eq (pc := 101) (tgt := 246) K dL_patternHolds_101 (by decide) h (fun h => ?_) (fun h => ?_)
      · refine l_iload (pc := 246) K 8 dL_patternHolds_246 rfl ?_
        exact hret _ _ _ _ _ _ dL_patternHolds_248 h (by omega) (by omega)
      · refine l_iload_n (pc := 104) K 2 dL_patternHolds_104 rfl ?_
        refine l_iconst (pc := 105) (v := 1) K dL_patternHolds_105 (by decide) ?_
        refine l_iload (pc := 106) K 9 dL_patternHolds_106 rfl ?_
        refine l_iadd (pc := 108) K dL_patternHolds_108 ?_
        refine l_idiv (pc := 109) K dL_patternHolds_109 h (fun h => ?_)
        refine l_bipush (pc := 110) (v := 50) K dL_patternHolds_110 (by decide) ?_
        refine l_irem (pc := 112) K dL_patternHolds_112 h (fun h => ?_)
        refine l_bipush (pc := 113) (v := 25) K dL_patternHolds_113 (by decide) ?_
        refine l_isub (pc := 115) K dL_patternHolds_115 ?_
        refine l_istore (pc := 116) (lv2 := [(12, .int ((irm (x2 / (1 + x11)) 50) - 25)), (0, .ref a0), (1, .int x1), (2, .int x2), (3, .int x3), (4, .int x4), (5, .int x5), (6, .long y6), (8, .long y8), (10, .int x10), (11, .int x11)]) K dL_patternHolds_116 (by decide) rfl ?_
        refine l_iload_n (pc := 118) K 4 dL_patternHolds_118 rfl ?_
        refine l_iconst (pc := 119) (v := 1) K dL_patternHolds_119 (by decide) ?_
        refine l_iload (pc := 120) K 10 dL_patternHolds_120 rfl ?_
        refine l_iadd (pc := 122) K dL_patternHolds_122 ?_
        refine l_idiv (pc := 123) K dL_patternHolds_123 h (fun h => ?_)
        refine l_bipush (pc := 124) (v := 50) K dL_patternHolds_124 (by decide) ?_
        refine l_irem (pc := 126) K dL_patternHolds_126 h (fun h => ?_)
        refine l_bipush (pc := 127) (v := 25) K dL_patternHolds_127 (by decide) ?_
        refine l_isub (pc := 129) K dL_patternHolds_129 ?_
        refine l_istore (pc := 130) (lv2 := [(13, .int ((irm (x3 / (1 + x11)) 50) - 25)), (12, .int ((irm (x2 / (1 + x11)) 50) - 25)), (0, .ref a0), (1, .int x1), (2, .int x2), (3, .int x3), (4, .int x4), (5, .int x5), (6, .long y6), (8, .long y8), (10, .int x10), (11, .int x11)]) K dL_patternHolds_130 (by decide) rfl ?_
        refine l_aload_n (pc := 132) K 2 dL_patternHolds_132 rfl ?_
        refine l_iload_n (pc := 133) K 3 dL_patternHolds_133 rfl ?_
        refine l_iload (pc := 134) K 1 dL_patternHolds_134 rfl ?_
        refine l_iload (pc := 136) K 0 dL_patternHolds_136 rfl ?_
        refine lW_long (pc := 138) (st := []) (As := [.ref a0, .int x1, .int ((irm (x2 / (1 + x11)) 50) - 25), .int ((irm (x3 / (1 + x11)) 50) - 25)]) K (M_L_colour K.2.2.2.2.2.2.1 _ _ _ _ _ _ h) dL_patternHolds_138 cw_L_colour cs_L_colour lw_RL_80 rfl rfl ⟨Nat.le_trans (by decide) hR.2.2.1, Nat.le_trans (by decide) hR.2.2.2⟩ rfl rfl (Nat.le_of_ble_eq_true rfl) (by rw [hR.1]; omega) (by rw [hR.2.1]; omega) (fun v21 h21 h => ?_)
        refine l_lstore (pc := 141) (lv2 := [(14, .long v21), (13, .int ((irm (x3 / (1 + x11)) 50) - 25)), (12, .int ((irm (x2 / (1 + x11)) 50) - 25)), (0, .ref a0), (1, .int x1), (2, .int x2), (3, .int x3), (4, .int x4), (5, .int x5), (6, .long y6), (8, .long y8), (10, .int x10), (11, .int x11)]) K dL_patternHolds_141 (by decide) rfl ?_
        refine l_lload (pc := 143) K 0 dL_patternHolds_143 rfl ?_
        refine l_lconst (pc := 145) (v := 0) K dL_patternHolds_145 (by decide) ?_
        refine l_lc_lt (pc := 146) (tgt := 237) K dL_patternHolds_146 dL_patternHolds_147 (by decide) h (fun h => ?_) (fun h => ?_)
        · refine l_sub [3, 4, 5, 6, 7, 8, 9, 10, 12] rfl ?_
          exact B_L_patternHolds_b237 (k0 := n * 5 + 0) (s0 := n * 30 + 0) K hR hret ih ⟨by omega, by omega⟩  _ _ _ _ _ _ _ _ _ _ _ _ h (by omega) (by omega)
        · refine l_lload (pc := 150) K 0 dL_patternHolds_150 rfl ?_
          refine l_ldc2 (pc := 152) (v := 7) K dL_patternHolds_152 kl_83 ?_
          refine l_lc_gt (pc := 155) (tgt := 237) K dL_patternHolds_155 dL_patternHolds_156 (by decide) h (fun h => ?_) (fun h => ?_)
          · refine l_sub [3, 4, 5, 6, 7, 8, 9, 10, 12] rfl ?_
            exact B_L_patternHolds_b237 (k0 := n * 5 + 0) (s0 := n * 30 + 0) K hR hret ih ⟨by omega, by omega⟩  _ _ _ _ _ _ _ _ _ _ _ _ h (by omega) (by omega)
          · refine l_lload (pc := 159) K 0 dL_patternHolds_159 rfl ?_
            refine l_aload_n (pc := 161) K 3 dL_patternHolds_161 rfl ?_
            refine l_iload_n (pc := 162) K 4 dL_patternHolds_162 rfl ?_
            refine l_iload (pc := 163) K 2 dL_patternHolds_163 rfl ?_
            refine l_iload (pc := 165) K 7 dL_patternHolds_165 rfl ?_
            refine l_iadd (pc := 167) K dL_patternHolds_167 ?_
            refine l_iload (pc := 168) K 1 dL_patternHolds_168 rfl ?_
            refine lW_long (pc := 170) (st := [.long v21]) (As := [.ref a0, .int x1, .int (((irm (x2 / (1 + x11)) 50) - 25) + x4), .int ((irm (x3 / (1 + x11)) 50) - 25)]) K (M_L_colour K.2.2.2.2.2.2.1 _ _ _ _ _ _ h) dL_patternHolds_170 cw_L_colour cs_L_colour lw_RL_80 rfl rfl ⟨Nat.le_trans (by decide) hR.2.2.1, Nat.le_trans (by decide) hR.2.2.2⟩ rfl rfl (Nat.le_of_ble_eq_true rfl) (by rw [hR.1]; omega) (by rw [hR.2.1]; omega) (fun v22 h22 h => ?_)
            refine l_lc_ne (pc := 173) (tgt := 237) K dL_patternHolds_173 dL_patternHolds_174 (by decide) h (fun h => ?_) (fun h => ?_)
            · refine l_sub [3, 4, 5, 6, 7, 8, 9, 10, 12] rfl ?_
              exact B_L_patternHolds_b237 (k0 := n * 5 + 0) (s0 := n * 30 + 0) K hR hret ih ⟨by omega, by omega⟩  _ _ _ _ _ _ _ _ _ _ _ _ h (by omega) (by omega)
            · refine l_lload (pc := 177) K 0 dL_patternHolds_177 rfl ?_
              refine l_aload_n (pc := 179) K 3 dL_patternHolds_179 rfl ?_
              refine l_iload_n (pc := 180) K 4 dL_patternHolds_180 rfl ?_
              refine l_iload (pc := 181) K 2 dL_patternHolds_181 rfl ?_
              refine l_iload (pc := 183) K 1 dL_patternHolds_183 rfl ?_
              refine l_iload (pc := 185) K 8 dL_patternHolds_185 rfl ?_
              refine l_isub (pc := 187) K dL_patternHolds_187 ?_
              refine lW_long (pc := 188) (st := [.long v21]) (As := [.ref a0, .int x1, .int ((irm (x2 / (1 + x11)) 50) - 25), .int (((irm (x3 / (1 + x11)) 50) - 25) - x5)]) K (M_L_colour K.2.2.2.2.2.2.1 _ _ _ _ _ _ h) dL_patternHolds_188 cw_L_colour cs_L_colour lw_RL_80 rfl rfl ⟨Nat.le_trans (by decide) hR.2.2.1, Nat.le_trans (by decide) hR.2.2.2⟩ rfl rfl (Nat.le_of_ble_eq_true rfl) (by rw [hR.1]; omega) (by rw [hR.2.1]; omega) (fun v23 h23 h => ?_)
              refine l_lc_ne (pc := 191) (tgt := 237) K dL_patternHolds_191 dL_patternHolds_192 (by decide) h (fun h => ?_) (fun h => ?_)
              · refine l_sub [3, 4, 5, 6, 7, 8, 9, 10, 12] rfl ?_
                exact B_L_patternHolds_b237 (k0 := n * 5 + 0) (s0 := n * 30 + 0) K hR hret ih ⟨by omega, by omega⟩  _ _ _ _ _ _ _ _ _ _ _ _ h (by omega) (by omega)
              · refine l_lload (pc := 195) K 0 dL_patternHolds_195 rfl ?_
                refine l_aload_n (pc := 197) K 3 dL_patternHolds_197 rfl ?_
                refine l_iload_n (pc := 198) K 4 dL_patternHolds_198 rfl ?_
                refine l_iload (pc := 199) K 2 dL_patternHolds_199 rfl ?_
                refine l_lload (pc := 201) K 9 dL_patternHolds_201 rfl ?_
                refine l_l2i (pc := 203) K dL_patternHolds_203 ?_
                refine l_isub (pc := 204) K dL_patternHolds_204 ?_
                refine l_iload (pc := 205) K 1 dL_patternHolds_205 rfl ?_
                refine lW_long (pc := 207) (st := [.long v21]) (As := [.ref a0, .int x1, .int (((irm (x2 / (1 + x11)) 50) - 25) - y6.toInt32), .int ((irm (x3 / (1 + x11)) 50) - 25)]) K (M_L_colour K.2.2.2.2.2.2.1 _ _ _ _ _ _ h) dL_patternHolds_207 cw_L_colour cs_L_colour lw_RL_80 rfl rfl ⟨Nat.le_trans (by decide) hR.2.2.1, Nat.le_trans (by decide) hR.2.2.2⟩ rfl rfl (Nat.le_of_ble_eq_true rfl) (by rw [hR.1]; omega) (by rw [hR.2.1]; omega) (fun v24 h24 h => ?_)
                refine l_lc_ne (pc := 210) (tgt := 237) K dL_patternHolds_210 dL_patternHolds_211 (by decide) h (fun h => ?_) (fun h => ?_)
                · refine l_sub [3, 4, 5, 6, 7, 8, 9, 10, 12] rfl ?_
                  exact B_L_patternHolds_b237 (k0 := n * 5 + 0) (s0 := n * 30 + 0) K hR hret ih ⟨by omega, by omega⟩  _ _ _ _ _ _ _ _ _ _ _ _ h (by omega) (by omega)
                · refine l_lload (pc := 214) K 0 dL_patternHolds_214 rfl ?_
                  refine l_aload_n (pc := 216) K 3 dL_patternHolds_216 rfl ?_
                  refine l_iload_n (pc := 217) K 4 dL_patternHolds_217 rfl ?_
                  refine l_iload (pc := 218) K 2 dL_patternHolds_218 rfl ?_
                  refine l_iload (pc := 220) K 1 dL_patternHolds_220 rfl ?_
                  refine l_lload (pc := 222) K 10 dL_patternHolds_222 rfl ?_
                  refine l_l2i (pc := 224) K dL_patternHolds_224 ?_
                  refine l_iadd (pc := 225) K dL_patternHolds_225 ?_
                  refine lW_long (pc := 226) (st := [.long v21]) (As := [.ref a0, .int x1, .int ((irm (x2 / (1 + x11)) 50) - 25), .int (((irm (x3 / (1 + x11)) 50) - 25) + y8.toInt32)]) K (M_L_colour K.2.2.2.2.2.2.1 _ _ _ _ _ _ h) dL_patternHolds_226 cw_L_colour cs_L_colour lw_RL_80 rfl rfl ⟨Nat.le_trans (by decide) hR.2.2.1, Nat.le_trans (by decide) hR.2.2.2⟩ rfl rfl (Nat.le_of_ble_eq_true rfl) (by rw [hR.1]; omega) (by rw [hR.2.1]; omega) (fun v25 h25 h => ?_)
                  refine l_lc_ne (pc := 229) (tgt := 237) K dL_patternHolds_229 dL_patternHolds_230 (by decide) h (fun h => ?_) (fun h => ?_)
                  · refine l_sub [3, 4, 5, 6, 7, 8, 9, 10, 12] rfl ?_
                    exact B_L_patternHolds_b237 (k0 := n * 5 + 0) (s0 := n * 30 + 0) K hR hret ih ⟨by omega, by omega⟩  _ _ _ _ _ _ _ _ _ _ _ _ h (by omega) (by omega)
                  · refine l_iconst (pc := 233) (v := 1) K dL_patternHolds_233 (by decide) ?_
                    refine l_goto (pc := 234) (tgt := 238) K dL_patternHolds_234 (by decide) ?_
                    refine l_sub [3, 4, 5, 6, 7, 8, 9, 10, 12] rfl ?_
                    exact B_L_patternHolds_b238 (k0 := n * 5 + 0) (s0 := n * 30 + 0) K hR hret ih ⟨by omega, by omega⟩  _ _ _ _ _ _ _ _ _ _ _ _ _ h (by omega) (by omega)
set_option maxRecDepth 100000 in
set_option maxHeartbeats 4000000 in
theorem B_L_patternHolds_b87 {R : Room} {mc ms : Nat} {Q : State → Prop} {Qp : Int32 → hpT → Prop} (K : Cx strL D cA h0 p l s m args meth c cL_patternHolds RL 16) (hR : R.cells = mc ∧ R.slots = ms ∧ 9 ≤ R.frames ∧ 186 ≤ R.locals) (hret : ∀ (pc : Nat) (v : Int32) (hp : hpT) (cells slots : Nat) (lv : List (Nat × Value)), decode cL_patternHolds pc = .ok (.ireturn, 1) → rtZP Qp v hp → cells ≤ mc → slots ≤ ms → GL D cA h0 p l e R s m args below meth c 16 Q cells slots hp pc lv [.int v]) : ∀ (a0 : Nat) (x1 : Int32) (x2 : Int32) (x3 : Int32) (x4 : Int32) (x5 : Int32) (y6 : Int64) (y8 : Int64) (xs0 : Int32) (hp : hpT) (cells slots : Nat), P_L_patternHolds_b87 a0 x1 x2 x3 x4 x5 y6 y8 xs0 hp Qp → cells + (45) ≤ mc → slots + (270) ≤ ms → GL D cA h0 p l e R s m args below meth c 16 Q cells slots hp 87 [(0, .ref a0), (1, .int x1), (2, .int x2), (3, .int x3), (4, .int x4), (5, .int x5), (6, .long y6), (8, .long y8)] [.int xs0] := by
  intro a0 x1 x2 x3 x4 x5 y6 y8 xs0 hp cells slots h hc hs
  unfold P_L_patternHolds_b87 at h
  refine l_istore (pc := 87) (lv2 := [(10, .int xs0), (0, .ref a0), (1, .int x1), (2, .int x2), (3, .int x3), (4, .int x4), (5, .int x5), (6, .long y6), (8, .long y8)]) K dL_patternHolds_87 (by decide) rfl ?_
  refine l_iconst (pc := 89) (v := 0) K dL_patternHolds_89 (by decide) ?_
  refine l_istore (pc := 90) (lv2 := [(11, .int 0), (10, .int xs0), (0, .ref a0), (1, .int x1), (2, .int x2), (3, .int x3), (4, .int x4), (5, .int x5), (6, .long y6), (8, .long y8)]) K dL_patternHolds_90 (by decide) rfl ?_
  refine l_sub [2, 3, 4, 5, 6, 7, 8, 9, 1, 0] rfl ?_
  exact B_L_patternHolds_b92 K hR hret 9 _ _ _ _ _ _ _ _ _ _ _ _ _ h (by omega) (by omega)
set_option maxRecDepth 100000 in
set_option maxHeartbeats 4000000 in
theorem B_L_patternHolds_b86 {R : Room} {mc ms : Nat} {Q : State → Prop} {Qp : Int32 → hpT → Prop} (K : Cx strL D cA h0 p l s m args meth c cL_patternHolds RL 16) (hR : R.cells = mc ∧ R.slots = ms ∧ 9 ≤ R.frames ∧ 186 ≤ R.locals) (hret : ∀ (pc : Nat) (v : Int32) (hp : hpT) (cells slots : Nat) (lv : List (Nat × Value)), decode cL_patternHolds pc = .ok (.ireturn, 1) → rtZP Qp v hp → cells ≤ mc → slots ≤ ms → GL D cA h0 p l e R s m args below meth c 16 Q cells slots hp pc lv [.int v]) : ∀ (a0 : Nat) (x1 : Int32) (x2 : Int32) (x3 : Int32) (x4 : Int32) (x5 : Int32) (y6 : Int64) (y8 : Int64) (hp : hpT) (cells slots : Nat), P_L_patternHolds_b86 a0 x1 x2 x3 x4 x5 y6 y8 hp Qp → cells + (45) ≤ mc → slots + (270) ≤ ms → GL D cA h0 p l e R s m args below meth c 16 Q cells slots hp 86 [(0, .ref a0), (1, .int x1), (2, .int x2), (3, .int x3), (4, .int x4), (5, .int x5), (6, .long y6), (8, .long y8)] [] := by
  intro a0 x1 x2 x3 x4 x5 y6 y8 hp cells slots h hc hs
  unfold P_L_patternHolds_b86 at h
  refine l_iconst (pc := 86) (v := 0) K dL_patternHolds_86 (by decide) ?_
  exact B_L_patternHolds_b87 K hR hret  _ _ _ _ _ _ _ _ _ _ _ _ h (by omega) (by omega)
set_option maxRecDepth 100000 in
set_option maxHeartbeats 4000000 in
theorem B_L_patternHolds_b0 {R : Room} {mc ms : Nat} {Q : State → Prop} {Qp : Int32 → hpT → Prop} (K : Cx strL D cA h0 p l s m args meth c cL_patternHolds RL 16) (hR : R.cells = mc ∧ R.slots = ms ∧ 9 ≤ R.frames ∧ 186 ≤ R.locals) (hret : ∀ (pc : Nat) (v : Int32) (hp : hpT) (cells slots : Nat) (lv : List (Nat × Value)), decode cL_patternHolds pc = .ok (.ireturn, 1) → rtZP Qp v hp → cells ≤ mc → slots ≤ ms → GL D cA h0 p l e R s m args below meth c 16 Q cells slots hp pc lv [.int v]) : ∀ (a0 : Nat) (x1 : Int32) (x2 : Int32) (x3 : Int32) (hp : hpT) (cells slots : Nat), P_L_patternHolds_b0 a0 x1 x2 x3 hp Qp → cells + (49) ≤ mc → slots + (294) ≤ ms → GL D cA h0 p l e R s m args below meth c 16 Q cells slots hp 0 [(0, .ref a0), (1, .int x1), (2, .int x2), (3, .int x3)] [] := by
  intro a0 x1 x2 x3 hp cells slots h hc hs
  unfold P_L_patternHolds_b0 at h
  refine l_aload_n (pc := 0) K 0 dL_patternHolds_0 rfl ?_
  refine l_iload_n (pc := 1) K 1 dL_patternHolds_1 rfl ?_
  refine l_iconst (pc := 2) (v := 0) K dL_patternHolds_2 (by decide) ?_
  refine lW_long (pc := 3) (st := []) (As := [.ref a0, .int x1, .int 0]) K (M_L_repeat K.2.2.2.2.2.2.1 _ _ _ _ _ h) dL_patternHolds_3 cw_L_repeat cs_L_repeat lw_RL_73 rfl rfl ⟨Nat.le_trans (by decide) hR.2.2.1, Nat.le_trans (by decide) hR.2.2.2⟩ rfl rfl (Nat.le_of_ble_eq_true rfl) (by rw [hR.1]; omega) (by rw [hR.2.1]; omega) (fun v26 h26 h => ?_)
  refine l_l2i (pc := 6) K dL_patternHolds_6 ?_
  refine l_istore (pc := 7) (lv2 := [(4, .int v26.toInt32), (0, .ref a0), (1, .int x1), (2, .int x2), (3, .int x3)]) K dL_patternHolds_7 (by decide) rfl ?_
  refine l_aload_n (pc := 9) K 1 dL_patternHolds_9 rfl ?_
  refine l_iload_n (pc := 10) K 2 dL_patternHolds_10 rfl ?_
  refine l_iconst (pc := 11) (v := 1) K dL_patternHolds_11 (by decide) ?_
  refine lW_long (pc := 12) (st := []) (As := [.ref a0, .int x1, .int 1]) K (M_L_repeat K.2.2.2.2.2.2.1 _ _ _ _ _ h) dL_patternHolds_12 cw_L_repeat cs_L_repeat lw_RL_73 rfl rfl ⟨Nat.le_trans (by decide) hR.2.2.1, Nat.le_trans (by decide) hR.2.2.2⟩ rfl rfl (Nat.le_of_ble_eq_true rfl) (by rw [hR.1]; omega) (by rw [hR.2.1]; omega) (fun v27 h27 h => ?_)
  refine l_l2i (pc := 15) K dL_patternHolds_15 ?_
  refine l_istore (pc := 16) (lv2 := [(5, .int v27.toInt32), (4, .int v26.toInt32), (0, .ref a0), (1, .int x1), (2, .int x2), (3, .int x3)]) K dL_patternHolds_16 (by decide) rfl ?_
  refine l_aload_n (pc := 18) K 2 dL_patternHolds_18 rfl ?_
  refine l_iload_n (pc := 19) K 3 dL_patternHolds_19 rfl ?_
  refine l_iconst (pc := 20) (v := 0) K dL_patternHolds_20 (by decide) ?_
  refine lW_long (pc := 21) (st := []) (As := [.ref a0, .int x1, .int 0]) K (M_L_repeatAnew K.2.2.2.2.2.2.1 _ _ _ _ _ h) dL_patternHolds_21 cw_L_repeatAnew cs_L_repeatAnew lw_RL_78 rfl rfl ⟨Nat.le_trans (by decide) hR.2.2.1, Nat.le_trans (by decide) hR.2.2.2⟩ rfl rfl (Nat.le_of_ble_eq_true rfl) (by rw [hR.1]; omega) (by rw [hR.2.1]; omega) (fun v28 h28 h => ?_)
  refine l_lstore (pc := 24) (lv2 := [(6, .long v28), (5, .int v27.toInt32), (4, .int v26.toInt32), (0, .ref a0), (1, .int x1), (2, .int x2), (3, .int x3)]) K dL_patternHolds_24 (by decide) rfl ?_
  refine l_aload_n (pc := 26) K 3 dL_patternHolds_26 rfl ?_
  refine l_iload_n (pc := 27) K 4 dL_patternHolds_27 rfl ?_
  refine l_iconst (pc := 28) (v := 1) K dL_patternHolds_28 (by decide) ?_
  refine lW_long (pc := 29) (st := []) (As := [.ref a0, .int x1, .int 1]) K (M_L_repeatAnew K.2.2.2.2.2.2.1 _ _ _ _ _ h) dL_patternHolds_29 cw_L_repeatAnew cs_L_repeatAnew lw_RL_78 rfl rfl ⟨Nat.le_trans (by decide) hR.2.2.1, Nat.le_trans (by decide) hR.2.2.2⟩ rfl rfl (Nat.le_of_ble_eq_true rfl) (by rw [hR.1]; omega) (by rw [hR.2.1]; omega) (fun v29 h29 h => ?_)
  refine l_lstore (pc := 32) (lv2 := [(8, .long v29), (6, .long v28), (5, .int v27.toInt32), (4, .int v26.toInt32), (0, .ref a0), (1, .int x1), (2, .int x2), (3, .int x3)]) K dL_patternHolds_32 (by decide) rfl ?_
  refine l_iload (pc := 34) K 3 dL_patternHolds_34 rfl ?_
  refine l_iconst (pc := 36) (v := 1) K dL_patternHolds_36 (by decide) ?_
  refine l_icmp_lt (pc := 37) (tgt := 86) K dL_patternHolds_37 (by decide) h (fun h => ?_) (fun h => ?_)
  · refine l_sub [4, 5, 6, 7, 3, 2, 1, 0] rfl ?_
    exact B_L_patternHolds_b86 K hR hret  _ _ _ _ _ _ _ _ _ _ _ h (by omega) (by omega)
  · refine l_iload (pc := 40) K 2 dL_patternHolds_40 rfl ?_
    refine l_iconst (pc := 42) (v := 1) K dL_patternHolds_42 (by decide) ?_
    refine l_icmp_lt (pc := 43) (tgt := 86) K dL_patternHolds_43 (by decide) h (fun h => ?_) (fun h => ?_)
    · refine l_sub [4, 5, 6, 7, 3, 2, 1, 0] rfl ?_
      exact B_L_patternHolds_b86 K hR hret  _ _ _ _ _ _ _ _ _ _ _ h (by omega) (by omega)
    · refine l_lload (pc := 46) K 1 dL_patternHolds_46 rfl ?_
      refine l_lconst (pc := 48) (v := 1) K dL_patternHolds_48 (by decide) ?_
      refine l_lc_lt (pc := 49) (tgt := 86) K dL_patternHolds_49 dL_patternHolds_50 (by decide) h (fun h => ?_) (fun h => ?_)
      · refine l_sub [4, 5, 6, 7, 3, 2, 1, 0] rfl ?_
        exact B_L_patternHolds_b86 K hR hret  _ _ _ _ _ _ _ _ _ _ _ h (by omega) (by omega)
      · refine l_lload (pc := 53) K 0 dL_patternHolds_53 rfl ?_
        refine l_lconst (pc := 55) (v := 1) K dL_patternHolds_55 (by decide) ?_
        refine l_lc_lt (pc := 56) (tgt := 86) K dL_patternHolds_56 dL_patternHolds_57 (by decide) h (fun h => ?_) (fun h => ?_)
        · refine l_sub [4, 5, 6, 7, 3, 2, 1, 0] rfl ?_
          exact B_L_patternHolds_b86 K hR hret  _ _ _ _ _ _ _ _ _ _ _ h (by omega) (by omega)
        · refine l_iload (pc := 60) K 3 dL_patternHolds_60 rfl ?_
          refine l_i2l (pc := 62) K dL_patternHolds_62 ?_
          refine l_lload (pc := 63) K 1 dL_patternHolds_63 rfl ?_
          refine l_lrem (pc := 65) K dL_patternHolds_65 h (fun h => ?_)
          refine l_lconst (pc := 66) (v := 0) K dL_patternHolds_66 (by decide) ?_
          refine l_lc_ne (pc := 67) (tgt := 86) K dL_patternHolds_67 dL_patternHolds_68 (by decide) h (fun h => ?_) (fun h => ?_)
          · refine l_sub [4, 5, 6, 7, 3, 2, 1, 0] rfl ?_
            exact B_L_patternHolds_b86 K hR hret  _ _ _ _ _ _ _ _ _ _ _ h (by omega) (by omega)
          · refine l_iload (pc := 71) K 2 dL_patternHolds_71 rfl ?_
            refine l_i2l (pc := 73) K dL_patternHolds_73 ?_
            refine l_lload (pc := 74) K 0 dL_patternHolds_74 rfl ?_
            refine l_lrem (pc := 76) K dL_patternHolds_76 h (fun h => ?_)
            refine l_lconst (pc := 77) (v := 0) K dL_patternHolds_77 (by decide) ?_
            refine l_lc_ne (pc := 78) (tgt := 86) K dL_patternHolds_78 dL_patternHolds_79 (by decide) h (fun h => ?_) (fun h => ?_)
            · refine l_sub [4, 5, 6, 7, 3, 2, 1, 0] rfl ?_
              exact B_L_patternHolds_b86 K hR hret  _ _ _ _ _ _ _ _ _ _ _ h (by omega) (by omega)
            · refine l_iconst (pc := 82) (v := 1) K dL_patternHolds_82 (by decide) ?_
              refine l_goto (pc := 83) (tgt := 87) K dL_patternHolds_83 (by decide) ?_
              refine l_sub [4, 5, 6, 7, 3, 2, 1, 0] rfl ?_
              exact B_L_patternHolds_b87 K hR hret  _ _ _ _ _ _ _ _ _ _ _ _ h (by omega) (by omega)
set_option maxRecDepth 100000 in
set_option maxHeartbeats 4000000 in
theorem M_L_patternHolds {D : va_G} {cA : Nat → ClassId} {h0 : Nat} {l : Launch} (hl : l.stackTraces = false) (a0 : Nat) (x1 : Int32) (x2 : Int32) (x3 : Int32) (hp : hpT) (Qp : Int32 → hpT → Prop) (h : P_L_patternHolds a0 x1 x2 x3 hp Qp) : vx_Met l yL_patternHolds (wsm yL_patternHolds cL_patternHolds 16 (some .boolean)) rm_L_patternHolds (va_Pc [.ref a0, .int x1, .int x2, .int x3] (Pre strL D cA h0 hp)) (QZp D cA h0 Qp) (XN h0) 49 294 (Af h0) := by
  refine l_entry (by decide +kernel) hl (Nat.le_of_ble_eq_true rfl) (lv := [(0, .ref a0), (1, .int x1), (2, .int x2), (3, .int x3)]) rfl ?_
  intro p e s m args below meth c K hr
  have K : Cx strL D cA h0 p l s m args meth c cL_patternHolds RL 16 := K
  refine l_sub [0, 1, 2, 3] rfl ?_
  exact B_L_patternHolds_b0 (R := rm_L_patternHolds) K ⟨rfl, rfl, by decide, by decide⟩ (fun pc v hp cells slots lv d h hc hs => l_zret K hr d h hc hs) a0 x1 x2 x3 hp 0 0 h (by decide) (by decide)
def rm_L_lotHigh : Room := { frames := 9, cells := 3, slots := 18, locals := 158 }
set_option maxRecDepth 100000 in
set_option maxHeartbeats 4000000 in
theorem B_L_lotHigh_b0 {R : Room} {mc ms : Nat} {Q : State → Prop} {Qp : Int64 → hpT → Prop} (K : Cx strL D cA h0 p l s m args meth c cL_lotHigh RL 2) (hR : R.cells = mc ∧ R.slots = ms ∧ 9 ≤ R.frames ∧ 158 ≤ R.locals) (hret : ∀ (pc : Nat) (v : Int64) (hp : hpT) (cells slots : Nat) (lv : List (Nat × Value)), decode cL_lotHigh pc = .ok (.lreturn, 1) → Qp v hp → cells ≤ mc → slots ≤ ms → GL D cA h0 p l e R s m args below meth c 2 Q cells slots hp pc lv [.long v]) : ∀ (a0 : Nat) (x1 : Int32) (hp : hpT) (cells slots : Nat), P_L_lotHigh_b0 a0 x1 hp Qp → cells + (3) ≤ mc → slots + (18) ≤ ms → GL D cA h0 p l e R s m args below meth c 2 Q cells slots hp 0 [(0, .ref a0), (1, .int x1)] [] := by
  intro a0 x1 hp cells slots h hc hs
  unfold P_L_lotHigh_b0 at h
  refine l_aload_n (pc := 0) K 0 dL_lotHigh_0 rfl ?_
  refine l_aload_n (pc := 1) K 0 dL_lotHigh_1 rfl ?_
  refine l_iload_n (pc := 2) K 1 dL_lotHigh_2 rfl ?_
  refine l_iconst (pc := 3) (v := 0) K dL_lotHigh_3 (by decide) ?_
  refine lW_long (pc := 4) (st := [.ref a0]) (As := [.ref a0, .int x1, .int 0]) K (M_L_lotOf K.2.2.2.2.2.2.1 _ _ _ _ _ h) dL_lotHigh_4 cw_L_lotOf cs_L_lotOf lw_RL_99 rfl rfl ⟨Nat.le_trans (by decide) hR.2.2.1, Nat.le_trans (by decide) hR.2.2.2⟩ rfl rfl (Nat.le_of_ble_eq_true rfl) (by rw [hR.1]; omega) (by rw [hR.2.1]; omega) (fun v21 h21 h => ?_)
  refine l_l2i (pc := 7) K dL_lotHigh_7 ?_
  refine l_iconst (pc := 8) (v := 3) K dL_lotHigh_8 (by decide) ?_
  refine l_irem (pc := 9) K dL_lotHigh_9 h (fun h => ?_)
  refine l_iconst (pc := 10) (v := 1) K dL_lotHigh_10 (by decide) ?_
  refine lW_long (pc := 11) (st := []) (As := [.ref a0, .int (irm v21.toInt32 3), .int 1]) K (M_L_repeat K.2.2.2.2.2.2.1 _ _ _ _ _ h) dL_lotHigh_11 cw_L_repeat cs_L_repeat lw_RL_73 rfl rfl ⟨Nat.le_trans (by decide) hR.2.2.1, Nat.le_trans (by decide) hR.2.2.2⟩ rfl rfl (Nat.le_of_ble_eq_true rfl) (by rw [hR.1]; omega) (by rw [hR.2.1]; omega) (fun v22 h22 h => ?_)
  exact hret _ _ _ _ _ _ dL_lotHigh_14 h (by omega) (by omega)
set_option maxRecDepth 100000 in
set_option maxHeartbeats 4000000 in
theorem M_L_lotHigh {D : va_G} {cA : Nat → ClassId} {h0 : Nat} {l : Launch} (hl : l.stackTraces = false) (a0 : Nat) (x1 : Int32) (hp : hpT) (Qp : Int64 → hpT → Prop) (h : P_L_lotHigh a0 x1 hp Qp) : vx_Met l yL_lotHigh (wsm yL_lotHigh cL_lotHigh 2 (some .long)) rm_L_lotHigh (va_Pc [.ref a0, .int x1] (Pre strL D cA h0 hp)) (QLp D cA h0 Qp) (XN h0) 3 18 (Af h0) := by
  refine l_entry (by decide +kernel) hl (Nat.le_of_ble_eq_true rfl) (lv := [(0, .ref a0), (1, .int x1)]) rfl ?_
  intro p e s m args below meth c K hr
  have K : Cx strL D cA h0 p l s m args meth c cL_lotHigh RL 2 := K
  refine l_sub [0, 1] rfl ?_
  exact B_L_lotHigh_b0 (R := rm_L_lotHigh) K ⟨rfl, rfl, by decide, by decide⟩ (fun pc v hp cells slots lv d h hc hs => l_lret K hr d h hc hs) a0 x1 hp 0 0 h (by decide) (by decide)
def rm_L_roomHolds : Room := { frames := 10, cells := 784, slots := 4704, locals := 179 }
set_option maxRecDepth 100000 in
set_option maxHeartbeats 4000000 in
theorem B_L_roomHolds_b97 {R : Room} {mc ms : Nat} {Q : State → Prop} {Qp : Int32 → hpT → Prop} (K : Cx strL D cA h0 p l s m args meth c cL_roomHolds RL 22) (hR : R.cells = mc ∧ R.slots = ms ∧ 10 ≤ R.frames ∧ 179 ≤ R.locals) (hret : ∀ (pc : Nat) (v : Int32) (hp : hpT) (cells slots : Nat) (lv : List (Nat × Value)), decode cL_roomHolds pc = .ok (.ireturn, 1) → rtZP Qp v hp → cells ≤ mc → slots ≤ ms → GL D cA h0 p l e R s m args below meth c 22 Q cells slots hp pc lv [.int v]) : ∀ (hp : hpT) (cells slots : Nat), P_L_roomHolds_b97  hp Qp → cells + (0) ≤ mc → slots + (0) ≤ ms → GL D cA h0 p l e R s m args below meth c 22 Q cells slots hp 97 [] [] := by
  intro  hp cells slots h hc hs
  unfold P_L_roomHolds_b97 at h
  refine l_iconst (pc := 97) (v := 1) K dL_roomHolds_97 (by decide) ?_
  refine l_goto (pc := 98) (tgt := 102) K dL_roomHolds_98 (by decide) ?_
  exact hret _ _ _ _ _ _ dL_roomHolds_102 h (by omega) (by omega)
set_option maxRecDepth 100000 in
set_option maxHeartbeats 4000000 in
theorem B_L_roomHolds_b101 {R : Room} {mc ms : Nat} {Q : State → Prop} {Qp : Int32 → hpT → Prop} (K : Cx strL D cA h0 p l s m args meth c cL_roomHolds RL 22) (hR : R.cells = mc ∧ R.slots = ms ∧ 10 ≤ R.frames ∧ 179 ≤ R.locals) (hret : ∀ (pc : Nat) (v : Int32) (hp : hpT) (cells slots : Nat) (lv : List (Nat × Value)), decode cL_roomHolds pc = .ok (.ireturn, 1) → rtZP Qp v hp → cells ≤ mc → slots ≤ ms → GL D cA h0 p l e R s m args below meth c 22 Q cells slots hp pc lv [.int v]) : ∀ (hp : hpT) (cells slots : Nat), P_L_roomHolds_b101  hp Qp → cells + (0) ≤ mc → slots + (0) ≤ ms → GL D cA h0 p l e R s m args below meth c 22 Q cells slots hp 101 [] [] := by
  intro  hp cells slots h hc hs
  unfold P_L_roomHolds_b101 at h
  refine l_iconst (pc := 101) (v := 0) K dL_roomHolds_101 (by decide) ?_
  exact hret _ _ _ _ _ _ dL_roomHolds_102 h (by omega) (by omega)
set_option maxRecDepth 100000 in
set_option maxHeartbeats 4000000 in
theorem B_L_roomHolds_b281 {R : Room} {mc ms : Nat} {k0 s0 : Nat} {k1 s1 : Nat} {Q : State → Prop} {Qp : Int32 → hpT → Prop} (K : Cx strL D cA h0 p l s m args meth c cL_roomHolds RL 22) (hR : R.cells = mc ∧ R.slots = ms ∧ 10 ≤ R.frames ∧ 179 ≤ R.locals) (hret : ∀ (pc : Nat) (v : Int32) (hp : hpT) (cells slots : Nat) (lv : List (Nat × Value)), decode cL_roomHolds pc = .ok (.ireturn, 1) → rtZP Qp v hp → cells ≤ mc → slots ≤ ms → GL D cA h0 p l e R s m args below meth c 22 Q cells slots hp pc lv [.int v]) {K176 : Nat → Int32 → Nat → Int32 → Int64 → Int64 → Int64 → Int64 → Int64 → Int32 → Int32 → Int32 → hpT → (Int32 → hpT → Prop) → Prop} (hK176 : ∀ (a0 : Nat) (x1 : Int32) (a2 : Nat) (x3 : Int32) (y6 : Int64) (y8 : Int64) (y10 : Int64) (y12 : Int64) (y14 : Int64) (x16 : Int32) (x17 : Int32) (x18 : Int32) (hp : hpT) (cells slots : Nat), K176 a0 x1 a2 x3 y6 y8 y10 y12 y14 x16 x17 x18 hp Qp → cells + k0 ≤ mc → slots + s0 ≤ ms → GL D cA h0 p l e R s m args below meth c 22 Q cells slots hp 176 [(0, .ref a0), (1, .int x1), (2, .ref a2), (3, .int x3), (6, .long y6), (8, .long y8), (10, .long y10), (12, .long y12), (14, .long y14), (16, .int x16), (17, .int x17), (18, .int x18)] []) (hA176 : 6 ≤ k0 ∧ 36 ≤ s0) {K190 : Nat → Int32 → Nat → Int32 → Int64 → Int64 → Int64 → Int64 → Int64 → Int32 → Int32 → Int32 → Int32 → hpT → (Int32 → hpT → Prop) → Prop} (hK190 : ∀ (a0 : Nat) (x1 : Int32) (a2 : Nat) (x3 : Int32) (y6 : Int64) (y8 : Int64) (y10 : Int64) (y12 : Int64) (y14 : Int64) (x16 : Int32) (x17 : Int32) (x18 : Int32) (x19 : Int32) (hp : hpT) (cells slots : Nat), K190 a0 x1 a2 x3 y6 y8 y10 y12 y14 x16 x17 x18 x19 hp Qp → cells + k1 ≤ mc → slots + s1 ≤ ms → GL D cA h0 p l e R s m args below meth c 22 Q cells slots hp 190 [(0, .ref a0), (1, .int x1), (2, .ref a2), (3, .int x3), (6, .long y6), (8, .long y8), (10, .long y10), (12, .long y12), (14, .long y14), (16, .int x16), (17, .int x17), (18, .int x18), (19, .int x19)] []) (hA190 : 3 + k0 ≤ k1 ∧ 18 + s0 ≤ s1) : ∀ (a0 : Nat) (x1 : Int32) (a2 : Nat) (x3 : Int32) (y6 : Int64) (y8 : Int64) (y10 : Int64) (y12 : Int64) (y14 : Int64) (x16 : Int32) (x18 : Int32) (x19 : Int32) (xs0 : Int32) (hp : hpT) (cells slots : Nat), P_L_roomHolds_b281 K176 K190 a0 x1 a2 x3 y6 y8 y10 y12 y14 x16 x18 x19 xs0 hp Qp → cells + (0 + k1) ≤ mc → slots + (0 + s1) ≤ ms → GL D cA h0 p l e R s m args below meth c 22 Q cells slots hp 281 [(0, .ref a0), (1, .int x1), (2, .ref a2), (3, .int x3), (6, .long y6), (8, .long y8), (10, .long y10), (12, .long y12), (14, .long y14), (16, .int x16), (18, .int x18), (19, .int x19)] [.int xs0] := by
  intro a0 x1 a2 x3 y6 y8 y10 y12 y14 x16 x18 x19 xs0 hp cells slots h hc hs
  unfold P_L_roomHolds_b281 at h
  refine l_istore (pc := 281) (lv2 := [(17, .int xs0), (0, .ref a0), (1, .int x1), (2, .ref a2), (3, .int x3), (6, .long y6), (8, .long y8), (10, .long y10), (12, .long y12), (14, .long y14), (16, .int x16), (18, .int x18), (19, .int x19)]) K dL_roomHolds_281 (by decide) rfl ?_
  refine l_lload (pc := 283) K 9 dL_roomHolds_283 rfl ?_
  refine l_aload_n (pc := 285) K 3 dL_roomHolds_285 rfl ?_
  refine l_iconst (pc := 286) (v := 4) K dL_roomHolds_286 (by decide) ?_
  refine l_iload_n (pc := 287) K 2 dL_roomHolds_287 rfl ?_
  refine l_imul (pc := 288) K dL_roomHolds_288 ?_
  refine l_iload (pc := 289) K 11 dL_roomHolds_289 rfl ?_
  refine l_iadd (pc := 291) K dL_roomHolds_291 ?_
  refine l_iald (pc := 292) K dL_roomHolds_292 h (fun v21 h => ?_)
  refine l_i2l (pc := 293) K dL_roomHolds_293 ?_
  refine l_ladd (pc := 294) K dL_roomHolds_294 ?_
  refine l_lstore (pc := 295) (lv2 := [(14, .long (y14 + v21.toInt64)), (17, .int xs0), (0, .ref a0), (1, .int x1), (2, .ref a2), (3, .int x3), (6, .long y6), (8, .long y8), (10, .long y10), (12, .long y12), (16, .int x16), (18, .int x18), (19, .int x19)]) K dL_roomHolds_295 (by decide) rfl ?_
  refine l_iinc (pc := 297) (v := (x16 + 1)) (lv2 := [(16, .int (x16 + 1)), (14, .long (y14 + v21.toInt64)), (17, .int xs0), (0, .ref a0), (1, .int x1), (2, .ref a2), (3, .int x3), (6, .long y6), (8, .long y8), (10, .long y10), (12, .long y12), (18, .int x18), (19, .int x19)]) K 10 dL_roomHolds_297 rfl rfl (by decide) rfl ?_
  refine l_iinc (pc := 300) (v := (x19 + 1)) (lv2 := [(19, .int (x19 + 1)), (16, .int (x16 + 1)), (14, .long (y14 + v21.toInt64)), (17, .int xs0), (0, .ref a0), (1, .int x1), (2, .ref a2), (3, .int x3), (6, .long y6), (8, .long y8), (10, .long y10), (12, .long y12), (18, .int x18)]) K 12 dL_roomHolds_300 rfl rfl (by decide) rfl ?_
  refine l_goto (pc := 303) (tgt := 190) K dL_roomHolds_303 (by decide) ?_
  refine l_sub [4, 5, 6, 7, 8, 9, 10, 11, 2, 1, 3, 12, 0] rfl ?_
  exact hK190 _ _ _ _ _ _ _ _ _ _ _ _ _ _ _ _ h (by omega) (by omega)
set_option maxRecDepth 100000 in
set_option maxHeartbeats 4000000 in
theorem B_L_roomHolds_b280 {R : Room} {mc ms : Nat} {k0 s0 : Nat} {k1 s1 : Nat} {Q : State → Prop} {Qp : Int32 → hpT → Prop} (K : Cx strL D cA h0 p l s m args meth c cL_roomHolds RL 22) (hR : R.cells = mc ∧ R.slots = ms ∧ 10 ≤ R.frames ∧ 179 ≤ R.locals) (hret : ∀ (pc : Nat) (v : Int32) (hp : hpT) (cells slots : Nat) (lv : List (Nat × Value)), decode cL_roomHolds pc = .ok (.ireturn, 1) → rtZP Qp v hp → cells ≤ mc → slots ≤ ms → GL D cA h0 p l e R s m args below meth c 22 Q cells slots hp pc lv [.int v]) {K176 : Nat → Int32 → Nat → Int32 → Int64 → Int64 → Int64 → Int64 → Int64 → Int32 → Int32 → Int32 → hpT → (Int32 → hpT → Prop) → Prop} (hK176 : ∀ (a0 : Nat) (x1 : Int32) (a2 : Nat) (x3 : Int32) (y6 : Int64) (y8 : Int64) (y10 : Int64) (y12 : Int64) (y14 : Int64) (x16 : Int32) (x17 : Int32) (x18 : Int32) (hp : hpT) (cells slots : Nat), K176 a0 x1 a2 x3 y6 y8 y10 y12 y14 x16 x17 x18 hp Qp → cells + k0 ≤ mc → slots + s0 ≤ ms → GL D cA h0 p l e R s m args below meth c 22 Q cells slots hp 176 [(0, .ref a0), (1, .int x1), (2, .ref a2), (3, .int x3), (6, .long y6), (8, .long y8), (10, .long y10), (12, .long y12), (14, .long y14), (16, .int x16), (17, .int x17), (18, .int x18)] []) (hA176 : 6 ≤ k0 ∧ 36 ≤ s0) {K190 : Nat → Int32 → Nat → Int32 → Int64 → Int64 → Int64 → Int64 → Int64 → Int32 → Int32 → Int32 → Int32 → hpT → (Int32 → hpT → Prop) → Prop} (hK190 : ∀ (a0 : Nat) (x1 : Int32) (a2 : Nat) (x3 : Int32) (y6 : Int64) (y8 : Int64) (y10 : Int64) (y12 : Int64) (y14 : Int64) (x16 : Int32) (x17 : Int32) (x18 : Int32) (x19 : Int32) (hp : hpT) (cells slots : Nat), K190 a0 x1 a2 x3 y6 y8 y10 y12 y14 x16 x17 x18 x19 hp Qp → cells + k1 ≤ mc → slots + s1 ≤ ms → GL D cA h0 p l e R s m args below meth c 22 Q cells slots hp 190 [(0, .ref a0), (1, .int x1), (2, .ref a2), (3, .int x3), (6, .long y6), (8, .long y8), (10, .long y10), (12, .long y12), (14, .long y14), (16, .int x16), (17, .int x17), (18, .int x18), (19, .int x19)] []) (hA190 : 3 + k0 ≤ k1 ∧ 18 + s0 ≤ s1) : ∀ (a0 : Nat) (x1 : Int32) (a2 : Nat) (x3 : Int32) (y6 : Int64) (y8 : Int64) (y10 : Int64) (y12 : Int64) (y14 : Int64) (x16 : Int32) (x18 : Int32) (x19 : Int32) (hp : hpT) (cells slots : Nat), P_L_roomHolds_b280 K176 K190 a0 x1 a2 x3 y6 y8 y10 y12 y14 x16 x18 x19 hp Qp → cells + (0 + k1) ≤ mc → slots + (0 + s1) ≤ ms → GL D cA h0 p l e R s m args below meth c 22 Q cells slots hp 280 [(0, .ref a0), (1, .int x1), (2, .ref a2), (3, .int x3), (6, .long y6), (8, .long y8), (10, .long y10), (12, .long y12), (14, .long y14), (16, .int x16), (18, .int x18), (19, .int x19)] [] := by
  intro a0 x1 a2 x3 y6 y8 y10 y12 y14 x16 x18 x19 hp cells slots h hc hs
  unfold P_L_roomHolds_b280 at h
  refine l_iconst (pc := 280) (v := 0) K dL_roomHolds_280 (by decide) ?_
  exact B_L_roomHolds_b281 (k0 := k0) (s0 := s0) (k1 := k1) (s1 := s1) K hR hret hK176 ⟨by omega, by omega⟩ hK190 ⟨by omega, by omega⟩  _ _ _ _ _ _ _ _ _ _ _ _ _ _ _ _ h (by omega) (by omega)
set_option maxRecDepth 100000 in
set_option maxHeartbeats 4000000 in
theorem B_L_roomHolds_b332 {R : Room} {mc ms : Nat} {k0 s0 : Nat} {Q : State → Prop} {Qp : Int32 → hpT → Prop} (K : Cx strL D cA h0 p l s m args meth c cL_roomHolds RL 22) (hR : R.cells = mc ∧ R.slots = ms ∧ 10 ≤ R.frames ∧ 179 ≤ R.locals) (hret : ∀ (pc : Nat) (v : Int32) (hp : hpT) (cells slots : Nat) (lv : List (Nat × Value)), decode cL_roomHolds pc = .ok (.ireturn, 1) → rtZP Qp v hp → cells ≤ mc → slots ≤ ms → GL D cA h0 p l e R s m args below meth c 22 Q cells slots hp pc lv [.int v]) {K176 : Nat → Int32 → Nat → Int32 → Int64 → Int64 → Int64 → Int64 → Int64 → Int32 → Int32 → Int32 → hpT → (Int32 → hpT → Prop) → Prop} (hK176 : ∀ (a0 : Nat) (x1 : Int32) (a2 : Nat) (x3 : Int32) (y6 : Int64) (y8 : Int64) (y10 : Int64) (y12 : Int64) (y14 : Int64) (x16 : Int32) (x17 : Int32) (x18 : Int32) (hp : hpT) (cells slots : Nat), K176 a0 x1 a2 x3 y6 y8 y10 y12 y14 x16 x17 x18 hp Qp → cells + k0 ≤ mc → slots + s0 ≤ ms → GL D cA h0 p l e R s m args below meth c 22 Q cells slots hp 176 [(0, .ref a0), (1, .int x1), (2, .ref a2), (3, .int x3), (6, .long y6), (8, .long y8), (10, .long y10), (12, .long y12), (14, .long y14), (16, .int x16), (17, .int x17), (18, .int x18)] []) (hA176 : 6 ≤ k0 ∧ 36 ≤ s0) : ∀ (a0 : Nat) (x1 : Int32) (a2 : Nat) (x3 : Int32) (y6 : Int64) (y8 : Int64) (y10 : Int64) (y12 : Int64) (y14 : Int64) (x16 : Int32) (x18 : Int32) (xs0 : Int32) (hp : hpT) (cells slots : Nat), P_L_roomHolds_b332 K176 a0 x1 a2 x3 y6 y8 y10 y12 y14 x16 x18 xs0 hp Qp → cells + (0 + k0) ≤ mc → slots + (0 + s0) ≤ ms → GL D cA h0 p l e R s m args below meth c 22 Q cells slots hp 332 [(0, .ref a0), (1, .int x1), (2, .ref a2), (3, .int x3), (6, .long y6), (8, .long y8), (10, .long y10), (12, .long y12), (14, .long y14), (16, .int x16), (18, .int x18)] [.int xs0] := by
  intro a0 x1 a2 x3 y6 y8 y10 y12 y14 x16 x18 xs0 hp cells slots h hc hs
  unfold P_L_roomHolds_b332 at h
  refine l_istore (pc := 332) (lv2 := [(17, .int xs0), (0, .ref a0), (1, .int x1), (2, .ref a2), (3, .int x3), (6, .long y6), (8, .long y8), (10, .long y10), (12, .long y12), (14, .long y14), (16, .int x16), (18, .int x18)]) K dL_roomHolds_332 (by decide) rfl ?_
  refine l_iinc (pc := 334) (v := (x18 + 1)) (lv2 := [(18, .int (x18 + 1)), (17, .int xs0), (0, .ref a0), (1, .int x1), (2, .ref a2), (3, .int x3), (6, .long y6), (8, .long y8), (10, .long y10), (12, .long y12), (14, .long y14), (16, .int x16)]) K 11 dL_roomHolds_334 rfl rfl (by decide) rfl ?_
  refine l_goto (pc := 337) (tgt := 176) K dL_roomHolds_337 (by decide) ?_
  refine l_sub [2, 3, 4, 5, 6, 7, 8, 9, 10, 11, 1, 0] rfl ?_
  exact hK176 _ _ _ _ _ _ _ _ _ _ _ _ _ _ _ h (by omega) (by omega)
set_option maxRecDepth 100000 in
set_option maxHeartbeats 4000000 in
theorem B_L_roomHolds_b331 {R : Room} {mc ms : Nat} {k0 s0 : Nat} {Q : State → Prop} {Qp : Int32 → hpT → Prop} (K : Cx strL D cA h0 p l s m args meth c cL_roomHolds RL 22) (hR : R.cells = mc ∧ R.slots = ms ∧ 10 ≤ R.frames ∧ 179 ≤ R.locals) (hret : ∀ (pc : Nat) (v : Int32) (hp : hpT) (cells slots : Nat) (lv : List (Nat × Value)), decode cL_roomHolds pc = .ok (.ireturn, 1) → rtZP Qp v hp → cells ≤ mc → slots ≤ ms → GL D cA h0 p l e R s m args below meth c 22 Q cells slots hp pc lv [.int v]) {K176 : Nat → Int32 → Nat → Int32 → Int64 → Int64 → Int64 → Int64 → Int64 → Int32 → Int32 → Int32 → hpT → (Int32 → hpT → Prop) → Prop} (hK176 : ∀ (a0 : Nat) (x1 : Int32) (a2 : Nat) (x3 : Int32) (y6 : Int64) (y8 : Int64) (y10 : Int64) (y12 : Int64) (y14 : Int64) (x16 : Int32) (x17 : Int32) (x18 : Int32) (hp : hpT) (cells slots : Nat), K176 a0 x1 a2 x3 y6 y8 y10 y12 y14 x16 x17 x18 hp Qp → cells + k0 ≤ mc → slots + s0 ≤ ms → GL D cA h0 p l e R s m args below meth c 22 Q cells slots hp 176 [(0, .ref a0), (1, .int x1), (2, .ref a2), (3, .int x3), (6, .long y6), (8, .long y8), (10, .long y10), (12, .long y12), (14, .long y14), (16, .int x16), (17, .int x17), (18, .int x18)] []) (hA176 : 6 ≤ k0 ∧ 36 ≤ s0) : ∀ (a0 : Nat) (x1 : Int32) (a2 : Nat) (x3 : Int32) (y6 : Int64) (y8 : Int64) (y10 : Int64) (y12 : Int64) (y14 : Int64) (x16 : Int32) (x18 : Int32) (hp : hpT) (cells slots : Nat), P_L_roomHolds_b331 K176 a0 x1 a2 x3 y6 y8 y10 y12 y14 x16 x18 hp Qp → cells + (0 + k0) ≤ mc → slots + (0 + s0) ≤ ms → GL D cA h0 p l e R s m args below meth c 22 Q cells slots hp 331 [(0, .ref a0), (1, .int x1), (2, .ref a2), (3, .int x3), (6, .long y6), (8, .long y8), (10, .long y10), (12, .long y12), (14, .long y14), (16, .int x16), (18, .int x18)] [] := by
  intro a0 x1 a2 x3 y6 y8 y10 y12 y14 x16 x18 hp cells slots h hc hs
  unfold P_L_roomHolds_b331 at h
  refine l_iconst (pc := 331) (v := 0) K dL_roomHolds_331 (by decide) ?_
  exact B_L_roomHolds_b332 (k0 := k0) (s0 := s0) K hR hret hK176 ⟨by omega, by omega⟩  _ _ _ _ _ _ _ _ _ _ _ _ _ _ _ h (by omega) (by omega)
set_option maxRecDepth 100000 in
set_option maxHeartbeats 4000000 in
theorem B_L_roomHolds_b306 {R : Room} {mc ms : Nat} {k0 s0 : Nat} {Q : State → Prop} {Qp : Int32 → hpT → Prop} (K : Cx strL D cA h0 p l s m args meth c cL_roomHolds RL 22) (hR : R.cells = mc ∧ R.slots = ms ∧ 10 ≤ R.frames ∧ 179 ≤ R.locals) (hret : ∀ (pc : Nat) (v : Int32) (hp : hpT) (cells slots : Nat) (lv : List (Nat × Value)), decode cL_roomHolds pc = .ok (.ireturn, 1) → rtZP Qp v hp → cells ≤ mc → slots ≤ ms → GL D cA h0 p l e R s m args below meth c 22 Q cells slots hp pc lv [.int v]) {K176 : Nat → Int32 → Nat → Int32 → Int64 → Int64 → Int64 → Int64 → Int64 → Int32 → Int32 → Int32 → hpT → (Int32 → hpT → Prop) → Prop} (hK176 : ∀ (a0 : Nat) (x1 : Int32) (a2 : Nat) (x3 : Int32) (y6 : Int64) (y8 : Int64) (y10 : Int64) (y12 : Int64) (y14 : Int64) (x16 : Int32) (x17 : Int32) (x18 : Int32) (hp : hpT) (cells slots : Nat), K176 a0 x1 a2 x3 y6 y8 y10 y12 y14 x16 x17 x18 hp Qp → cells + k0 ≤ mc → slots + s0 ≤ ms → GL D cA h0 p l e R s m args below meth c 22 Q cells slots hp 176 [(0, .ref a0), (1, .int x1), (2, .ref a2), (3, .int x3), (6, .long y6), (8, .long y8), (10, .long y10), (12, .long y12), (14, .long y14), (16, .int x16), (17, .int x17), (18, .int x18)] []) (hA176 : 6 ≤ k0 ∧ 36 ≤ s0) : ∀ (a0 : Nat) (x1 : Int32) (a2 : Nat) (x3 : Int32) (y6 : Int64) (y8 : Int64) (y10 : Int64) (y12 : Int64) (y14 : Int64) (x16 : Int32) (x17 : Int32) (x18 : Int32) (x19 : Int32) (hp : hpT) (cells slots : Nat), P_L_roomHolds_b306 K176 a0 x1 a2 x3 y6 y8 y10 y12 y14 x16 x17 x18 x19 hp Qp → cells + (3 + k0) ≤ mc → slots + (18 + s0) ≤ ms → GL D cA h0 p l e R s m args below meth c 22 Q cells slots hp 306 [(0, .ref a0), (1, .int x1), (2, .ref a2), (3, .int x3), (6, .long y6), (8, .long y8), (10, .long y10), (12, .long y12), (14, .long y14), (16, .int x16), (17, .int x17), (18, .int x18), (19, .int x19)] [] := by
  intro a0 x1 a2 x3 y6 y8 y10 y12 y14 x16 x17 x18 x19 hp cells slots h hc hs
  unfold P_L_roomHolds_b306 at h
  refine l_iload (pc := 306) K 10 dL_roomHolds_306 rfl ?_
  refine l_if_eq (pc := 308) (tgt := 331) K dL_roomHolds_308 (by decide) h (fun h => ?_) (fun h => ?_)
  · refine l_sub [0, 1, 2, 3, 4, 5, 6, 7, 8, 9, 11] rfl ?_
    exact B_L_roomHolds_b331 (k0 := k0) (s0 := s0) K hR hret hK176 ⟨by omega, by omega⟩  _ _ _ _ _ _ _ _ _ _ _ _ _ _ h (by omega) (by omega)
  · refine l_aload_n (pc := 311) K 0 dL_roomHolds_311 rfl ?_
    refine l_iload_n (pc := 312) K 1 dL_roomHolds_312 rfl ?_
    refine l_iload (pc := 313) K 11 dL_roomHolds_313 rfl ?_
    refine l_iload (pc := 315) K 12 dL_roomHolds_315 rfl ?_
    refine lW_long (pc := 317) (st := []) (As := [.ref a0, .int x1, .int x18, .int x19]) K (M_L_cut K.2.2.2.2.2.2.1 _ _ _ _ _ _ h) dL_roomHolds_317 cw_L_cut cs_L_cut lw_RL_90 rfl rfl ⟨Nat.le_trans (by decide) hR.2.2.1, Nat.le_trans (by decide) hR.2.2.2⟩ rfl rfl (Nat.le_of_ble_eq_true rfl) (by rw [hR.1]; omega) (by rw [hR.2.1]; omega) (fun v22 h22 h => ?_)
    refine l_ldc2 (pc := 320) (v := (-9000000000000000001)) K dL_roomHolds_320 kl_29 ?_
    refine l_lc_ne (pc := 323) (tgt := 331) K dL_roomHolds_323 dL_roomHolds_324 (by decide) h (fun h => ?_) (fun h => ?_)
    · refine l_sub [0, 1, 2, 3, 4, 5, 6, 7, 8, 9, 11] rfl ?_
      exact B_L_roomHolds_b331 (k0 := k0) (s0 := s0) K hR hret hK176 ⟨by omega, by omega⟩  _ _ _ _ _ _ _ _ _ _ _ _ _ _ h (by omega) (by omega)
    · refine l_iconst (pc := 327) (v := 1) K dL_roomHolds_327 (by decide) ?_
      refine l_goto (pc := 328) (tgt := 332) K dL_roomHolds_328 (by decide) ?_
      refine l_sub [0, 1, 2, 3, 4, 5, 6, 7, 8, 9, 11] rfl ?_
      exact B_L_roomHolds_b332 (k0 := k0) (s0 := s0) K hR hret hK176 ⟨by omega, by omega⟩  _ _ _ _ _ _ _ _ _ _ _ _ _ _ _ h (by omega) (by omega)
set_option maxRecDepth 100000 in
set_option maxHeartbeats 4000000 in
theorem B_L_roomHolds_b190 {R : Room} {mc ms : Nat} {k0 s0 : Nat} {Q : State → Prop} {Qp : Int32 → hpT → Prop} (K : Cx strL D cA h0 p l s m args meth c cL_roomHolds RL 22) (hR : R.cells = mc ∧ R.slots = ms ∧ 10 ≤ R.frames ∧ 179 ≤ R.locals) (hret : ∀ (pc : Nat) (v : Int32) (hp : hpT) (cells slots : Nat) (lv : List (Nat × Value)), decode cL_roomHolds pc = .ok (.ireturn, 1) → rtZP Qp v hp → cells ≤ mc → slots ≤ ms → GL D cA h0 p l e R s m args below meth c 22 Q cells slots hp pc lv [.int v]) {K176 : Nat → Int32 → Nat → Int32 → Int64 → Int64 → Int64 → Int64 → Int64 → Int32 → Int32 → Int32 → hpT → (Int32 → hpT → Prop) → Prop} (hK176 : ∀ (a0 : Nat) (x1 : Int32) (a2 : Nat) (x3 : Int32) (y6 : Int64) (y8 : Int64) (y10 : Int64) (y12 : Int64) (y14 : Int64) (x16 : Int32) (x17 : Int32) (x18 : Int32) (hp : hpT) (cells slots : Nat), K176 a0 x1 a2 x3 y6 y8 y10 y12 y14 x16 x17 x18 hp Qp → cells + k0 ≤ mc → slots + s0 ≤ ms → GL D cA h0 p l e R s m args below meth c 22 Q cells slots hp 176 [(0, .ref a0), (1, .int x1), (2, .ref a2), (3, .int x3), (6, .long y6), (8, .long y8), (10, .long y10), (12, .long y12), (14, .long y14), (16, .int x16), (17, .int x17), (18, .int x18)] []) (hA176 : 6 ≤ k0 ∧ 36 ≤ s0) : ∀ (n : Nat) (a0 : Nat) (x1 : Int32) (a2 : Nat) (x3 : Int32) (y6 : Int64) (y8 : Int64) (y10 : Int64) (y12 : Int64) (y14 : Int64) (x16 : Int32) (x17 : Int32) (x18 : Int32) (x19 : Int32) (hp : hpT) (cells slots : Nat), P_L_roomHolds_b190 K176 n a0 x1 a2 x3 y6 y8 y10 y12 y14 x16 x17 x18 x19 hp Qp → cells + (n * 6 + 3 + k0) ≤ mc → slots + (n * 36 + 18 + s0) ≤ ms → GL D cA h0 p l e R s m args below meth c 22 Q cells slots hp 190 [(0, .ref a0), (1, .int x1), (2, .ref a2), (3, .int x3), (6, .long y6), (8, .long y8), (10, .long y10), (12, .long y12), (14, .long y14), (16, .int x16), (17, .int x17), (18, .int x18), (19, .int x19)] [] := by
  intro n
  induction n with
  | zero => intro a0 x1 a2 x3 y6 y8 y10 y12 y14 x16 x17 x18 x19 hp cells slots h; exact h.elim
  | succ n ih =>
    intro a0 x1 a2 x3 y6 y8 y10 y12 y14 x16 x17 x18 x19 hp cells slots h hc hs
    rw [P_L_roomHolds_b190] at h
    refine l_iload (pc := 190) K 12 dL_roomHolds_190 rfl ?_
    refine l_bipush (pc := 192) (v := 24) K dL_roomHolds_192 (by decide) ?_
    refine l_icmp_ge (pc := 194) (tgt := 306) K dL_roomHolds_194 (by decide) h (fun h => ?_) (fun h => ?_)
    · exact B_L_roomHolds_b306 (k0 := k0) (s0 := s0) K hR hret hK176 ⟨by omega, by omega⟩  _ _ _ _ _ _ _ _ _ _ _ _ _ _ _ _ h (by omega) (by omega)
    · refine l_iload (pc := 197) K 10 dL_roomHolds_197 rfl ?_
      refine l_if_eq (pc := 199) (tgt := 306) K dL_roomHolds_199 (by decide) h (fun h => ?_) (fun h => ?_)
      · exact B_L_roomHolds_b306 (k0 := k0) (s0 := s0) K hR hret hK176 ⟨by omega, by omega⟩  _ _ _ _ _ _ _ _ _ _ _ _ _ _ _ _ h (by omega) (by omega)
      · refine l_aload_n (pc := 202) K 0 dL_roomHolds_202 rfl ?_
        refine l_iload_n (pc := 203) K 1 dL_roomHolds_203 rfl ?_
        refine l_iload (pc := 204) K 11 dL_roomHolds_204 rfl ?_
        refine l_iload (pc := 206) K 12 dL_roomHolds_206 rfl ?_
        refine lW_long (pc := 208) (st := []) (As := [.ref a0, .int x1, .int x18, .int x19]) K (M_L_cut K.2.2.2.2.2.2.1 _ _ _ _ _ _ h) dL_roomHolds_208 cw_L_cut cs_L_cut lw_RL_90 rfl rfl ⟨Nat.le_trans (by decide) hR.2.2.1, Nat.le_trans (by decide) hR.2.2.2⟩ rfl rfl (Nat.le_of_ble_eq_true rfl) (by rw [hR.1]; omega) (by rw [hR.2.1]; omega) (fun v23 h23 h => ?_)
        refine l_lconst (pc := 211) (v := 0) K dL_roomHolds_211 (by decide) ?_
        refine l_lc_lt (pc := 212) (tgt := 306) K dL_roomHolds_212 dL_roomHolds_213 (by decide) h (fun h => ?_) (fun h => ?_)
        · exact B_L_roomHolds_b306 (k0 := k0) (s0 := s0) K hR hret hK176 ⟨by omega, by omega⟩  _ _ _ _ _ _ _ _ _ _ _ _ _ _ _ _ h (by omega) (by omega)
        · refine l_aload_n (pc := 216) K 0 dL_roomHolds_216 rfl ?_
          refine l_iload_n (pc := 217) K 1 dL_roomHolds_217 rfl ?_
          refine l_iload (pc := 218) K 11 dL_roomHolds_218 rfl ?_
          refine l_iload (pc := 220) K 12 dL_roomHolds_220 rfl ?_
          refine lW_long (pc := 222) (st := []) (As := [.ref a0, .int x1, .int x18, .int x19]) K (M_L_cut K.2.2.2.2.2.2.1 _ _ _ _ _ _ h) dL_roomHolds_222 cw_L_cut cs_L_cut lw_RL_90 rfl rfl ⟨Nat.le_trans (by decide) hR.2.2.1, Nat.le_trans (by decide) hR.2.2.2⟩ rfl rfl (Nat.le_of_ble_eq_true rfl) (by rw [hR.1]; omega) (by rw [hR.2.1]; omega) (fun v24 h24 h => ?_)
          refine l_lstore (pc := 225) (lv2 := [(20, .long v24), (0, .ref a0), (1, .int x1), (2, .ref a2), (3, .int x3), (6, .long y6), (8, .long y8), (10, .long y10), (12, .long y12), (14, .long y14), (16, .int x16), (17, .int x17), (18, .int x18), (19, .int x19)]) K dL_roomHolds_225 (by decide) rfl ?_
          refine l_lload (pc := 227) K 0 dL_roomHolds_227 rfl ?_
          refine l_ldc2 (pc := 229) (v := 1000) K dL_roomHolds_229 kl_101 ?_
          refine l_lrem (pc := 232) K dL_roomHolds_232 h (fun h => ?_)
          refine l_lload (pc := 233) K 5 dL_roomHolds_233 rfl ?_
          refine l_lrem (pc := 235) K dL_roomHolds_235 h (fun h => ?_)
          refine l_lload (pc := 236) K 7 dL_roomHolds_236 rfl ?_
          refine l_lc_ne (pc := 238) (tgt := 280) K dL_roomHolds_238 dL_roomHolds_239 (by decide) h (fun h => ?_) (fun h => ?_)
          · refine l_sub [1, 2, 3, 4, 5, 6, 7, 8, 9, 10, 12, 13] rfl ?_
            exact B_L_roomHolds_b280 (k0 := k0) (s0 := s0) (k1 := n * 6 + 3 + k0) (s1 := n * 36 + 18 + s0) K hR hret hK176 ⟨by omega, by omega⟩ ih ⟨by omega, by omega⟩  _ _ _ _ _ _ _ _ _ _ _ _ _ _ _ h (by omega) (by omega)
          · refine l_lload (pc := 242) K 0 dL_roomHolds_242 rfl ?_
            refine l_ldc2 (pc := 244) (v := 1000) K dL_roomHolds_244 kl_101 ?_
            refine l_lrem (pc := 247) K dL_roomHolds_247 h (fun h => ?_)
            refine l_aload_n (pc := 248) K 3 dL_roomHolds_248 rfl ?_
            refine l_iconst (pc := 249) (v := 4) K dL_roomHolds_249 (by decide) ?_
            refine l_iload_n (pc := 250) K 2 dL_roomHolds_250 rfl ?_
            refine l_imul (pc := 251) K dL_roomHolds_251 ?_
            refine l_iload (pc := 252) K 12 dL_roomHolds_252 rfl ?_
            refine l_iadd (pc := 254) K dL_roomHolds_254 ?_
            refine l_iald (pc := 255) K dL_roomHolds_255 h (fun v25 h => ?_)
            refine l_i2l (pc := 256) K dL_roomHolds_256 ?_
            refine l_ladd (pc := 257) K dL_roomHolds_257 ?_
            refine l_lload (pc := 258) K 6 dL_roomHolds_258 rfl ?_
            refine l_lc_gt (pc := 260) (tgt := 280) K dL_roomHolds_260 dL_roomHolds_261 (by decide) h (fun h => ?_) (fun h => ?_)
            · refine l_sub [1, 2, 3, 4, 5, 6, 7, 8, 9, 10, 12, 13] rfl ?_
              exact B_L_roomHolds_b280 (k0 := k0) (s0 := s0) (k1 := n * 6 + 3 + k0) (s1 := n * 36 + 18 + s0) K hR hret hK176 ⟨by omega, by omega⟩ ih ⟨by omega, by omega⟩  _ _ _ _ _ _ _ _ _ _ _ _ _ _ _ h (by omega) (by omega)
            · refine l_lload (pc := 264) K 0 dL_roomHolds_264 rfl ?_
              refine l_ldc2 (pc := 266) (v := 1000) K dL_roomHolds_266 kl_101 ?_
              refine l_ldiv (pc := 269) K dL_roomHolds_269 h (fun h => ?_)
              refine l_lload (pc := 270) K 8 dL_roomHolds_270 rfl ?_
              refine l_lc_ge (pc := 272) (tgt := 280) K dL_roomHolds_272 dL_roomHolds_273 (by decide) h (fun h => ?_) (fun h => ?_)
              · refine l_sub [1, 2, 3, 4, 5, 6, 7, 8, 9, 10, 12, 13] rfl ?_
                exact B_L_roomHolds_b280 (k0 := k0) (s0 := s0) (k1 := n * 6 + 3 + k0) (s1 := n * 36 + 18 + s0) K hR hret hK176 ⟨by omega, by omega⟩ ih ⟨by omega, by omega⟩  _ _ _ _ _ _ _ _ _ _ _ _ _ _ _ h (by omega) (by omega)
              · refine l_iconst (pc := 276) (v := 1) K dL_roomHolds_276 (by decide) ?_
                refine l_goto (pc := 277) (tgt := 281) K dL_roomHolds_277 (by decide) ?_
                refine l_sub [1, 2, 3, 4, 5, 6, 7, 8, 9, 10, 12, 13] rfl ?_
                exact B_L_roomHolds_b281 (k0 := k0) (s0 := s0) (k1 := n * 6 + 3 + k0) (s1 := n * 36 + 18 + s0) K hR hret hK176 ⟨by omega, by omega⟩ ih ⟨by omega, by omega⟩  _ _ _ _ _ _ _ _ _ _ _ _ _ _ _ _ h (by omega) (by omega)
set_option maxRecDepth 100000 in
set_option maxHeartbeats 4000000 in
theorem B_L_roomHolds_b391 {R : Room} {mc ms : Nat} {Q : State → Prop} {Qp : Int32 → hpT → Prop} (K : Cx strL D cA h0 p l s m args meth c cL_roomHolds RL 22) (hR : R.cells = mc ∧ R.slots = ms ∧ 10 ≤ R.frames ∧ 179 ≤ R.locals) (hret : ∀ (pc : Nat) (v : Int32) (hp : hpT) (cells slots : Nat) (lv : List (Nat × Value)), decode cL_roomHolds pc = .ok (.ireturn, 1) → rtZP Qp v hp → cells ≤ mc → slots ≤ ms → GL D cA h0 p l e R s m args below meth c 22 Q cells slots hp pc lv [.int v]) : ∀ (hp : hpT) (cells slots : Nat), P_L_roomHolds_b391  hp Qp → cells + (0) ≤ mc → slots + (0) ≤ ms → GL D cA h0 p l e R s m args below meth c 22 Q cells slots hp 391 [] [] := by
  intro  hp cells slots h hc hs
  unfold P_L_roomHolds_b391 at h
  refine l_iconst (pc := 391) (v := 0) K dL_roomHolds_391 (by decide) ?_
  exact hret _ _ _ _ _ _ dL_roomHolds_392 h (by omega) (by omega)
set_option maxRecDepth 100000 in
set_option maxHeartbeats 4000000 in
theorem B_L_roomHolds_b340 {R : Room} {mc ms : Nat} {Q : State → Prop} {Qp : Int32 → hpT → Prop} (K : Cx strL D cA h0 p l s m args meth c cL_roomHolds RL 22) (hR : R.cells = mc ∧ R.slots = ms ∧ 10 ≤ R.frames ∧ 179 ≤ R.locals) (hret : ∀ (pc : Nat) (v : Int32) (hp : hpT) (cells slots : Nat) (lv : List (Nat × Value)), decode cL_roomHolds pc = .ok (.ireturn, 1) → rtZP Qp v hp → cells ≤ mc → slots ≤ ms → GL D cA h0 p l e R s m args below meth c 22 Q cells slots hp pc lv [.int v]) : ∀ (a0 : Nat) (x1 : Int32) (y8 : Int64) (y12 : Int64) (y14 : Int64) (x16 : Int32) (x17 : Int32) (hp : hpT) (cells slots : Nat), P_L_roomHolds_b340 a0 x1 y8 y12 y14 x16 x17 hp Qp → cells + (6) ≤ mc → slots + (36) ≤ ms → GL D cA h0 p l e R s m args below meth c 22 Q cells slots hp 340 [(0, .ref a0), (1, .int x1), (8, .long y8), (12, .long y12), (14, .long y14), (16, .int x16), (17, .int x17)] [] := by
  intro a0 x1 y8 y12 y14 x16 x17 hp cells slots h hc hs
  unfold P_L_roomHolds_b340 at h
  refine l_iload (pc := 340) K 6 dL_roomHolds_340 rfl ?_
  refine l_if_eq (pc := 342) (tgt := 391) K dL_roomHolds_342 (by decide) h (fun h => ?_) (fun h => ?_)
  · refine l_sub [] rfl ?_
    exact B_L_roomHolds_b391 K hR hret   _ _ _ h (by omega) (by omega)
  · refine l_iload (pc := 345) K 5 dL_roomHolds_345 rfl ?_
    refine l_i2l (pc := 347) K dL_roomHolds_347 ?_
    refine l_aload_n (pc := 348) K 0 dL_roomHolds_348 rfl ?_
    refine l_iload_n (pc := 349) K 1 dL_roomHolds_349 rfl ?_
    refine l_iconst (pc := 350) (v := 1) K dL_roomHolds_350 (by decide) ?_
    refine lW_long (pc := 351) (st := [.long x16.toInt64]) (As := [.ref a0, .int x1, .int 1]) K (M_L_room K.2.2.2.2.2.2.1 _ _ _ _ _ h) dL_roomHolds_351 cw_L_room cs_L_room lw_RL_85 rfl rfl ⟨Nat.le_trans (by decide) hR.2.2.1, Nat.le_trans (by decide) hR.2.2.2⟩ rfl rfl (Nat.le_of_ble_eq_true rfl) (by rw [hR.1]; omega) (by rw [hR.2.1]; omega) (fun v26 h26 h => ?_)
    refine l_lc_ne (pc := 354) (tgt := 391) K dL_roomHolds_354 dL_roomHolds_355 (by decide) h (fun h => ?_) (fun h => ?_)
    · refine l_sub [] rfl ?_
      exact B_L_roomHolds_b391 K hR hret   _ _ _ h (by omega) (by omega)
    · refine l_aload_n (pc := 358) K 0 dL_roomHolds_358 rfl ?_
      refine l_iload_n (pc := 359) K 1 dL_roomHolds_359 rfl ?_
      refine l_iconst (pc := 360) (v := 5) K dL_roomHolds_360 (by decide) ?_
      refine lW_long (pc := 361) (st := []) (As := [.ref a0, .int x1, .int 5]) K (M_L_room K.2.2.2.2.2.2.1 _ _ _ _ _ h) dL_roomHolds_361 cw_L_room cs_L_room lw_RL_85 rfl rfl ⟨Nat.le_trans (by decide) hR.2.2.1, Nat.le_trans (by decide) hR.2.2.2⟩ rfl rfl (Nat.le_of_ble_eq_true rfl) (by rw [hR.1]; omega) (by rw [hR.2.1]; omega) (fun v27 h27 h => ?_)
      refine l_lload (pc := 364) K 3 dL_roomHolds_364 rfl ?_
      refine l_lload (pc := 366) K 2 dL_roomHolds_366 rfl ?_
      refine l_lmul (pc := 368) K dL_roomHolds_368 ?_
      refine l_lload (pc := 369) K 4 dL_roomHolds_369 rfl ?_
      refine l_lsub (pc := 371) K dL_roomHolds_371 ?_
      refine l_lc_ne (pc := 372) (tgt := 391) K dL_roomHolds_372 dL_roomHolds_373 (by decide) h (fun h => ?_) (fun h => ?_)
      · refine l_sub [] rfl ?_
        exact B_L_roomHolds_b391 K hR hret   _ _ _ h (by omega) (by omega)
      · refine l_aload_n (pc := 376) K 0 dL_roomHolds_376 rfl ?_
        refine l_iload_n (pc := 377) K 1 dL_roomHolds_377 rfl ?_
        refine l_iconst (pc := 378) (v := 5) K dL_roomHolds_378 (by decide) ?_
        refine lW_long (pc := 379) (st := []) (As := [.ref a0, .int x1, .int 5]) K (M_L_room K.2.2.2.2.2.2.1 _ _ _ _ _ h) dL_roomHolds_379 cw_L_room cs_L_room lw_RL_85 rfl rfl ⟨Nat.le_trans (by decide) hR.2.2.1, Nat.le_trans (by decide) hR.2.2.2⟩ rfl rfl (Nat.le_of_ble_eq_true rfl) (by rw [hR.1]; omega) (by rw [hR.2.1]; omega) (fun v28 h28 h => ?_)
        refine l_lconst (pc := 382) (v := 0) K dL_roomHolds_382 (by decide) ?_
        refine l_lc_lt (pc := 383) (tgt := 391) K dL_roomHolds_383 dL_roomHolds_384 (by decide) h (fun h => ?_) (fun h => ?_)
        · refine l_sub [] rfl ?_
          exact B_L_roomHolds_b391 K hR hret   _ _ _ h (by omega) (by omega)
        · refine l_iconst (pc := 387) (v := 1) K dL_roomHolds_387 (by decide) ?_
          refine l_goto (pc := 388) (tgt := 392) K dL_roomHolds_388 (by decide) ?_
          exact hret _ _ _ _ _ _ dL_roomHolds_392 h (by omega) (by omega)
set_option maxRecDepth 100000 in
set_option maxHeartbeats 4000000 in
theorem B_L_roomHolds_b176 {R : Room} {mc ms : Nat} {Q : State → Prop} {Qp : Int32 → hpT → Prop} (K : Cx strL D cA h0 p l s m args meth c cL_roomHolds RL 22) (hR : R.cells = mc ∧ R.slots = ms ∧ 10 ≤ R.frames ∧ 179 ≤ R.locals) (hret : ∀ (pc : Nat) (v : Int32) (hp : hpT) (cells slots : Nat) (lv : List (Nat × Value)), decode cL_roomHolds pc = .ok (.ireturn, 1) → rtZP Qp v hp → cells ≤ mc → slots ≤ ms → GL D cA h0 p l e R s m args below meth c 22 Q cells slots hp pc lv [.int v]) : ∀ (n : Nat) (a0 : Nat) (x1 : Int32) (a2 : Nat) (x3 : Int32) (y6 : Int64) (y8 : Int64) (y10 : Int64) (y12 : Int64) (y14 : Int64) (x16 : Int32) (x17 : Int32) (x18 : Int32) (hp : hpT) (cells slots : Nat), P_L_roomHolds_b176 n a0 x1 a2 x3 y6 y8 y10 y12 y14 x16 x17 x18 hp Qp → cells + (n * 153 + 6) ≤ mc → slots + (n * 918 + 36) ≤ ms → GL D cA h0 p l e R s m args below meth c 22 Q cells slots hp 176 [(0, .ref a0), (1, .int x1), (2, .ref a2), (3, .int x3), (6, .long y6), (8, .long y8), (10, .long y10), (12, .long y12), (14, .long y14), (16, .int x16), (17, .int x17), (18, .int x18)] [] := by
  intro n
  induction n with
  | zero => intro a0 x1 a2 x3 y6 y8 y10 y12 y14 x16 x17 x18 hp cells slots h; exact h.elim
  | succ n ih =>
    intro a0 x1 a2 x3 y6 y8 y10 y12 y14 x16 x17 x18 hp cells slots h hc hs
    rw [P_L_roomHolds_b176] at h
    refine l_iload (pc := 176) K 11 dL_roomHolds_176 rfl ?_
    refine l_iload_n (pc := 178) K 3 dL_roomHolds_178 rfl ?_
    refine l_icmp_ge (pc := 179) (tgt := 340) K dL_roomHolds_179 (by decide) h (fun h => ?_) (fun h => ?_)
    · refine l_sub [0, 1, 5, 7, 8, 9, 10] rfl ?_
      exact B_L_roomHolds_b340 K hR hret  _ _ _ _ _ _ _ _ _ _ h (by omega) (by omega)
    · refine l_iload (pc := 182) K 10 dL_roomHolds_182 rfl ?_
      refine l_if_eq (pc := 184) (tgt := 340) K dL_roomHolds_184 (by decide) h (fun h => ?_) (fun h => ?_)
      · refine l_sub [0, 1, 5, 7, 8, 9, 10] rfl ?_
        exact B_L_roomHolds_b340 K hR hret  _ _ _ _ _ _ _ _ _ _ h (by omega) (by omega)
      · refine l_iconst (pc := 187) (v := 0) K dL_roomHolds_187 (by decide) ?_
        refine l_istore (pc := 188) (lv2 := [(19, .int 0), (0, .ref a0), (1, .int x1), (2, .ref a2), (3, .int x3), (6, .long y6), (8, .long y8), (10, .long y10), (12, .long y12), (14, .long y14), (16, .int x16), (17, .int x17), (18, .int x18)]) K dL_roomHolds_188 (by decide) rfl ?_
        refine l_sub [1, 2, 3, 4, 5, 6, 7, 8, 9, 10, 11, 12, 0] rfl ?_
        exact B_L_roomHolds_b190 (k0 := n * 153 + 6) (s0 := n * 918 + 36) K hR hret ih ⟨by omega, by omega⟩ 25 _ _ _ _ _ _ _ _ _ _ _ _ _ _ _ _ h (by omega) (by omega)
set_option maxRecDepth 100000 in
set_option maxHeartbeats 4000000 in
theorem B_L_roomHolds_b171 {R : Room} {mc ms : Nat} {Q : State → Prop} {Qp : Int32 → hpT → Prop} (K : Cx strL D cA h0 p l s m args meth c cL_roomHolds RL 22) (hR : R.cells = mc ∧ R.slots = ms ∧ 10 ≤ R.frames ∧ 179 ≤ R.locals) (hret : ∀ (pc : Nat) (v : Int32) (hp : hpT) (cells slots : Nat) (lv : List (Nat × Value)), decode cL_roomHolds pc = .ok (.ireturn, 1) → rtZP Qp v hp → cells ≤ mc → slots ≤ ms → GL D cA h0 p l e R s m args below meth c 22 Q cells slots hp pc lv [.int v]) : ∀ (a0 : Nat) (x1 : Int32) (a2 : Nat) (x3 : Int32) (y6 : Int64) (y8 : Int64) (y10 : Int64) (y12 : Int64) (y14 : Int64) (x16 : Int32) (xs0 : Int32) (hp : hpT) (cells slots : Nat), P_L_roomHolds_b171 a0 x1 a2 x3 y6 y8 y10 y12 y14 x16 xs0 hp Qp → cells + (771) ≤ mc → slots + (4626) ≤ ms → GL D cA h0 p l e R s m args below meth c 22 Q cells slots hp 171 [(0, .ref a0), (1, .int x1), (2, .ref a2), (3, .int x3), (6, .long y6), (8, .long y8), (10, .long y10), (12, .long y12), (14, .long y14), (16, .int x16)] [.int xs0] := by
  intro a0 x1 a2 x3 y6 y8 y10 y12 y14 x16 xs0 hp cells slots h hc hs
  unfold P_L_roomHolds_b171 at h
  refine l_istore (pc := 171) (lv2 := [(17, .int xs0), (0, .ref a0), (1, .int x1), (2, .ref a2), (3, .int x3), (6, .long y6), (8, .long y8), (10, .long y10), (12, .long y12), (14, .long y14), (16, .int x16)]) K dL_roomHolds_171 (by decide) rfl ?_
  refine l_iconst (pc := 173) (v := 0) K dL_roomHolds_173 (by decide) ?_
  refine l_istore (pc := 174) (lv2 := [(18, .int 0), (17, .int xs0), (0, .ref a0), (1, .int x1), (2, .ref a2), (3, .int x3), (6, .long y6), (8, .long y8), (10, .long y10), (12, .long y12), (14, .long y14), (16, .int x16)]) K dL_roomHolds_174 (by decide) rfl ?_
  refine l_sub [2, 3, 4, 5, 6, 7, 8, 9, 10, 11, 1, 0] rfl ?_
  exact B_L_roomHolds_b176 K hR hret 5 _ _ _ _ _ _ _ _ _ _ _ _ _ _ _ h (by omega) (by omega)
set_option maxRecDepth 100000 in
set_option maxHeartbeats 4000000 in
theorem B_L_roomHolds_b170 {R : Room} {mc ms : Nat} {Q : State → Prop} {Qp : Int32 → hpT → Prop} (K : Cx strL D cA h0 p l s m args meth c cL_roomHolds RL 22) (hR : R.cells = mc ∧ R.slots = ms ∧ 10 ≤ R.frames ∧ 179 ≤ R.locals) (hret : ∀ (pc : Nat) (v : Int32) (hp : hpT) (cells slots : Nat) (lv : List (Nat × Value)), decode cL_roomHolds pc = .ok (.ireturn, 1) → rtZP Qp v hp → cells ≤ mc → slots ≤ ms → GL D cA h0 p l e R s m args below meth c 22 Q cells slots hp pc lv [.int v]) : ∀ (a0 : Nat) (x1 : Int32) (a2 : Nat) (x3 : Int32) (y6 : Int64) (y8 : Int64) (y10 : Int64) (y12 : Int64) (y14 : Int64) (x16 : Int32) (hp : hpT) (cells slots : Nat), P_L_roomHolds_b170 a0 x1 a2 x3 y6 y8 y10 y12 y14 x16 hp Qp → cells + (771) ≤ mc → slots + (4626) ≤ ms → GL D cA h0 p l e R s m args below meth c 22 Q cells slots hp 170 [(0, .ref a0), (1, .int x1), (2, .ref a2), (3, .int x3), (6, .long y6), (8, .long y8), (10, .long y10), (12, .long y12), (14, .long y14), (16, .int x16)] [] := by
  intro a0 x1 a2 x3 y6 y8 y10 y12 y14 x16 hp cells slots h hc hs
  unfold P_L_roomHolds_b170 at h
  refine l_iconst (pc := 170) (v := 0) K dL_roomHolds_170 (by decide) ?_
  exact B_L_roomHolds_b171 K hR hret  _ _ _ _ _ _ _ _ _ _ _ _ _ _ h (by omega) (by omega)
set_option maxRecDepth 100000 in
set_option maxHeartbeats 4000000 in
theorem B_L_roomHolds_b0 {R : Room} {mc ms : Nat} {Q : State → Prop} {Qp : Int32 → hpT → Prop} (K : Cx strL D cA h0 p l s m args meth c cL_roomHolds RL 22) (hR : R.cells = mc ∧ R.slots = ms ∧ 10 ≤ R.frames ∧ 179 ≤ R.locals) (hret : ∀ (pc : Nat) (v : Int32) (hp : hpT) (cells slots : Nat) (lv : List (Nat × Value)), decode cL_roomHolds pc = .ok (.ireturn, 1) → rtZP Qp v hp → cells ≤ mc → slots ≤ ms → GL D cA h0 p l e R s m args below meth c 22 Q cells slots hp pc lv [.int v]) : ∀ (a0 : Nat) (x1 : Int32) (a2 : Nat) (hp : hpT) (cells slots : Nat), P_L_roomHolds_b0 a0 x1 a2 hp Qp → cells + (784) ≤ mc → slots + (4704) ≤ ms → GL D cA h0 p l e R s m args below meth c 22 Q cells slots hp 0 [(0, .ref a0), (1, .int x1), (2, .ref a2)] [] := by
  intro a0 x1 a2 hp cells slots h hc hs
  unfold P_L_roomHolds_b0 at h
  refine l_aload_n (pc := 0) K 0 dL_roomHolds_0 rfl ?_
  refine l_iload_n (pc := 1) K 1 dL_roomHolds_1 rfl ?_
  refine l_iconst (pc := 2) (v := 0) K dL_roomHolds_2 (by decide) ?_
  refine lW_long (pc := 3) (st := []) (As := [.ref a0, .int x1, .int 0]) K (M_L_room K.2.2.2.2.2.2.1 _ _ _ _ _ h) dL_roomHolds_3 cw_L_room cs_L_room lw_RL_85 rfl rfl ⟨Nat.le_trans (by decide) hR.2.2.1, Nat.le_trans (by decide) hR.2.2.2⟩ rfl rfl (Nat.le_of_ble_eq_true rfl) (by rw [hR.1]; omega) (by rw [hR.2.1]; omega) (fun v29 h29 h => ?_)
  refine l_l2i (pc := 6) K dL_roomHolds_6 ?_
  refine l_istore_n (pc := 7) (lv2 := [(3, .int v29.toInt32), (0, .ref a0), (1, .int x1), (2, .ref a2)]) K dL_roomHolds_7 (by decide) rfl ?_
  refine l_aload_n (pc := 8) K 1 dL_roomHolds_8 rfl ?_
  refine l_iload_n (pc := 9) K 2 dL_roomHolds_9 rfl ?_
  refine l_iconst (pc := 10) (v := 2) K dL_roomHolds_10 (by decide) ?_
  refine lW_long (pc := 11) (st := []) (As := [.ref a0, .int x1, .int 2]) K (M_L_room K.2.2.2.2.2.2.1 _ _ _ _ _ h) dL_roomHolds_11 cw_L_room cs_L_room lw_RL_85 rfl rfl ⟨Nat.le_trans (by decide) hR.2.2.1, Nat.le_trans (by decide) hR.2.2.2⟩ rfl rfl (Nat.le_of_ble_eq_true rfl) (by rw [hR.1]; omega) (by rw [hR.2.1]; omega) (fun v30 h30 h => ?_)
  refine l_lstore (pc := 14) (lv2 := [(4, .long v30), (3, .int v29.toInt32), (0, .ref a0), (1, .int x1), (2, .ref a2)]) K dL_roomHolds_14 (by decide) rfl ?_
  refine l_lload (pc := 16) K 0 dL_roomHolds_16 rfl ?_
  refine l_lconst (pc := 18) (v := 0) K dL_roomHolds_18 (by decide) ?_
  refine l_lc_ge (pc := 19) (tgt := 103) K dL_roomHolds_19 dL_roomHolds_20 (by decide) h (fun h => ?_) (fun h => ?_)
  · refine l_aload_n (pc := 103) K 2 dL_roomHolds_103 rfl ?_
    refine l_lload (pc := 104) K 0 dL_roomHolds_104 rfl ?_
    refine l_l2i (pc := 106) K dL_roomHolds_106 ?_
    refine lS_long (pc := 107) (st := []) (As := [.ref a0, .int v30.toInt32]) K (M_L_lotHigh K.2.2.2.2.2.2.1 _ _ _ _ h) dL_roomHolds_107 ce_L_lotHigh cs_L_lotHigh lk_RL_95 rfl rfl ⟨Nat.le_trans (by decide) hR.2.2.1, Nat.le_trans (by decide) hR.2.2.2⟩ rfl rfl (Nat.le_of_ble_eq_true rfl) (by rw [hR.1]; omega) (by rw [hR.2.1]; omega) (fun v31 h31 h => ?_)
    refine l_lstore (pc := 110) (lv2 := [(6, .long v31), (4, .long v30), (3, .int v29.toInt32), (0, .ref a0), (1, .int x1), (2, .ref a2)]) K dL_roomHolds_110 (by decide) rfl ?_
    refine l_aload_n (pc := 112) K 3 dL_roomHolds_112 rfl ?_
    refine l_lload (pc := 113) K 1 dL_roomHolds_113 rfl ?_
    refine l_l2i (pc := 115) K dL_roomHolds_115 ?_
    refine l_iconst (pc := 116) (v := 3) K dL_roomHolds_116 (by decide) ?_
    refine lW_long (pc := 117) (st := []) (As := [.ref a0, .int v30.toInt32, .int 3]) K (M_L_lotOf K.2.2.2.2.2.2.1 _ _ _ _ _ h) dL_roomHolds_117 cw_L_lotOf cs_L_lotOf lw_RL_99 rfl rfl ⟨Nat.le_trans (by decide) hR.2.2.1, Nat.le_trans (by decide) hR.2.2.2⟩ rfl rfl (Nat.le_of_ble_eq_true rfl) (by rw [hR.1]; omega) (by rw [hR.2.1]; omega) (fun v32 h32 h => ?_)
    refine l_lstore (pc := 120) (lv2 := [(8, .long v32), (6, .long v31), (4, .long v30), (3, .int v29.toInt32), (0, .ref a0), (1, .int x1), (2, .ref a2)]) K dL_roomHolds_120 (by decide) rfl ?_
    refine l_aload_n (pc := 122) K 4 dL_roomHolds_122 rfl ?_
    refine l_iload_n (pc := 123) K 5 dL_roomHolds_123 rfl ?_
    refine l_iconst (pc := 124) (v := 3) K dL_roomHolds_124 (by decide) ?_
    refine lW_long (pc := 125) (st := []) (As := [.ref a0, .int x1, .int 3]) K (M_L_room K.2.2.2.2.2.2.1 _ _ _ _ _ h) dL_roomHolds_125 cw_L_room cs_L_room lw_RL_85 rfl rfl ⟨Nat.le_trans (by decide) hR.2.2.1, Nat.le_trans (by decide) hR.2.2.2⟩ rfl rfl (Nat.le_of_ble_eq_true rfl) (by rw [hR.1]; omega) (by rw [hR.2.1]; omega) (fun v33 h33 h => ?_)
    refine l_lstore (pc := 128) (lv2 := [(10, .long v33), (8, .long v32), (6, .long v31), (4, .long v30), (3, .int v29.toInt32), (0, .ref a0), (1, .int x1), (2, .ref a2)]) K dL_roomHolds_128 (by decide) rfl ?_
    refine l_aload_n (pc := 130) K 5 dL_roomHolds_130 rfl ?_
    refine l_iload_n (pc := 131) K 6 dL_roomHolds_131 rfl ?_
    refine l_iconst (pc := 132) (v := 4) K dL_roomHolds_132 (by decide) ?_
    refine lW_long (pc := 133) (st := []) (As := [.ref a0, .int x1, .int 4]) K (M_L_room K.2.2.2.2.2.2.1 _ _ _ _ _ h) dL_roomHolds_133 cw_L_room cs_L_room lw_RL_85 rfl rfl ⟨Nat.le_trans (by decide) hR.2.2.1, Nat.le_trans (by decide) hR.2.2.2⟩ rfl rfl (Nat.le_of_ble_eq_true rfl) (by rw [hR.1]; omega) (by rw [hR.2.1]; omega) (fun v34 h34 h => ?_)
    refine l_lstore (pc := 136) (lv2 := [(12, .long v34), (10, .long v33), (8, .long v32), (6, .long v31), (4, .long v30), (3, .int v29.toInt32), (0, .ref a0), (1, .int x1), (2, .ref a2)]) K dL_roomHolds_136 (by decide) rfl ?_
    refine l_lconst (pc := 138) (v := 0) K dL_roomHolds_138 (by decide) ?_
    refine l_lstore (pc := 139) (lv2 := [(14, .long 0), (12, .long v34), (10, .long v33), (8, .long v32), (6, .long v31), (4, .long v30), (3, .int v29.toInt32), (0, .ref a0), (1, .int x1), (2, .ref a2)]) K dL_roomHolds_139 (by decide) rfl ?_
    refine l_iconst (pc := 141) (v := 0) K dL_roomHolds_141 (by decide) ?_
    refine l_istore (pc := 142) (lv2 := [(16, .int 0), (14, .long 0), (12, .long v34), (10, .long v33), (8, .long v32), (6, .long v31), (4, .long v30), (3, .int v29.toInt32), (0, .ref a0), (1, .int x1), (2, .ref a2)]) K dL_roomHolds_142 (by decide) rfl ?_
    refine l_lload (pc := 144) K 3 dL_roomHolds_144 rfl ?_
    refine l_lconst (pc := 146) (v := 0) K dL_roomHolds_146 (by decide) ?_
    refine l_lc_lt (pc := 147) (tgt := 170) K dL_roomHolds_147 dL_roomHolds_148 (by decide) h (fun h => ?_) (fun h => ?_)
    · refine l_sub [8, 9, 10, 7, 5, 4, 3, 2, 1, 0] rfl ?_
      exact B_L_roomHolds_b170 K hR hret  _ _ _ _ _ _ _ _ _ _ _ _ _ h (by omega) (by omega)
    · refine l_lload (pc := 151) K 3 dL_roomHolds_151 rfl ?_
      refine l_lload (pc := 153) K 5 dL_roomHolds_153 rfl ?_
      refine l_lc_ge (pc := 155) (tgt := 170) K dL_roomHolds_155 dL_roomHolds_156 (by decide) h (fun h => ?_) (fun h => ?_)
      · refine l_sub [8, 9, 10, 7, 5, 4, 3, 2, 1, 0] rfl ?_
        exact B_L_roomHolds_b170 K hR hret  _ _ _ _ _ _ _ _ _ _ _ _ _ h (by omega) (by omega)
      · refine l_lload (pc := 159) K 2 dL_roomHolds_159 rfl ?_
        refine l_lconst (pc := 161) (v := 1) K dL_roomHolds_161 (by decide) ?_
        refine l_lc_lt (pc := 162) (tgt := 170) K dL_roomHolds_162 dL_roomHolds_163 (by decide) h (fun h => ?_) (fun h => ?_)
        · refine l_sub [8, 9, 10, 7, 5, 4, 3, 2, 1, 0] rfl ?_
          exact B_L_roomHolds_b170 K hR hret  _ _ _ _ _ _ _ _ _ _ _ _ _ h (by omega) (by omega)
        · refine l_iconst (pc := 166) (v := 1) K dL_roomHolds_166 (by decide) ?_
          refine l_goto (pc := 167) (tgt := 171) K dL_roomHolds_167 (by decide) ?_
          refine l_sub [8, 9, 10, 7, 5, 4, 3, 2, 1, 0] rfl ?_
          exact B_L_roomHolds_b171 K hR hret  _ _ _ _ _ _ _ _ _ _ _ _ _ _ h (by omega) (by omega)
  · refine l_aload_n (pc := 23) K 2 dL_roomHolds_23 rfl ?_
    refine l_iload_n (pc := 24) K 3 dL_roomHolds_24 rfl ?_
    refine l_iconst (pc := 25) (v := 3) K dL_roomHolds_25 (by decide) ?_
    refine lW_long (pc := 26) (st := []) (As := [.ref a0, .int x1, .int 3]) K (M_L_room K.2.2.2.2.2.2.1 _ _ _ _ _ h) dL_roomHolds_26 cw_L_room cs_L_room lw_RL_85 rfl rfl ⟨Nat.le_trans (by decide) hR.2.2.1, Nat.le_trans (by decide) hR.2.2.2⟩ rfl rfl (Nat.le_of_ble_eq_true rfl) (by rw [hR.1]; omega) (by rw [hR.2.1]; omega) (fun v35 h35 h => ?_)
    refine l_ldc2 (pc := 29) (v := (-1)) K dL_roomHolds_29 kl_88 ?_
    refine l_lc_ne (pc := 32) (tgt := 101) K dL_roomHolds_32 dL_roomHolds_33 (by decide) h (fun h => ?_) (fun h => ?_)
    · refine l_sub [] rfl ?_
      exact B_L_roomHolds_b101 K hR hret   _ _ _ h (by omega) (by omega)
    · refine l_aload_n (pc := 36) K 2 dL_roomHolds_36 rfl ?_
      refine l_iload_n (pc := 37) K 3 dL_roomHolds_37 rfl ?_
      refine l_iconst (pc := 38) (v := 4) K dL_roomHolds_38 (by decide) ?_
      refine lW_long (pc := 39) (st := []) (As := [.ref a0, .int x1, .int 4]) K (M_L_room K.2.2.2.2.2.2.1 _ _ _ _ _ h) dL_roomHolds_39 cw_L_room cs_L_room lw_RL_85 rfl rfl ⟨Nat.le_trans (by decide) hR.2.2.1, Nat.le_trans (by decide) hR.2.2.2⟩ rfl rfl (Nat.le_of_ble_eq_true rfl) (by rw [hR.1]; omega) (by rw [hR.2.1]; omega) (fun v36 h36 h => ?_)
      refine l_ldc2 (pc := 42) (v := (-1)) K dL_roomHolds_42 kl_88 ?_
      refine l_lc_ne (pc := 45) (tgt := 101) K dL_roomHolds_45 dL_roomHolds_46 (by decide) h (fun h => ?_) (fun h => ?_)
      · refine l_sub [] rfl ?_
        exact B_L_roomHolds_b101 K hR hret   _ _ _ h (by omega) (by omega)
      · refine l_aload_n (pc := 49) K 2 dL_roomHolds_49 rfl ?_
        refine l_iload_n (pc := 50) K 3 dL_roomHolds_50 rfl ?_
        refine l_iconst (pc := 51) (v := 5) K dL_roomHolds_51 (by decide) ?_
        refine lW_long (pc := 52) (st := []) (As := [.ref a0, .int x1, .int 5]) K (M_L_room K.2.2.2.2.2.2.1 _ _ _ _ _ h) dL_roomHolds_52 cw_L_room cs_L_room lw_RL_85 rfl rfl ⟨Nat.le_trans (by decide) hR.2.2.1, Nat.le_trans (by decide) hR.2.2.2⟩ rfl rfl (Nat.le_of_ble_eq_true rfl) (by rw [hR.1]; omega) (by rw [hR.2.1]; omega) (fun v37 h37 h => ?_)
        refine l_ldc2 (pc := 55) (v := (-1)) K dL_roomHolds_55 kl_88 ?_
        refine l_lc_ne (pc := 58) (tgt := 101) K dL_roomHolds_58 dL_roomHolds_59 (by decide) h (fun h => ?_) (fun h => ?_)
        · refine l_sub [] rfl ?_
          exact B_L_roomHolds_b101 K hR hret   _ _ _ h (by omega) (by omega)
        · refine l_iload_n (pc := 62) K 1 dL_roomHolds_62 rfl ?_
          refine l_if_eq (pc := 63) (tgt := 97) K dL_roomHolds_63 (by decide) h (fun h => ?_) (fun h => ?_)
          · refine l_sub [] rfl ?_
            exact B_L_roomHolds_b97 K hR hret   _ _ _ h (by omega) (by omega)
          · refine l_aload_n (pc := 66) K 2 dL_roomHolds_66 rfl ?_
            refine l_iload_n (pc := 67) K 3 dL_roomHolds_67 rfl ?_
            refine l_iconst (pc := 68) (v := 0) K dL_roomHolds_68 (by decide) ?_
            refine l_iconst (pc := 69) (v := 0) K dL_roomHolds_69 (by decide) ?_
            refine lW_long (pc := 70) (st := []) (As := [.ref a0, .int x1, .int 0, .int 0]) K (M_L_cut K.2.2.2.2.2.2.1 _ _ _ _ _ _ h) dL_roomHolds_70 cw_L_cut cs_L_cut lw_RL_90 rfl rfl ⟨Nat.le_trans (by decide) hR.2.2.1, Nat.le_trans (by decide) hR.2.2.2⟩ rfl rfl (Nat.le_of_ble_eq_true rfl) (by rw [hR.1]; omega) (by rw [hR.2.1]; omega) (fun v38 h38 h => ?_)
            refine l_ldc2 (pc := 73) (v := (-1)) K dL_roomHolds_73 kl_88 ?_
            refine l_lc_ne (pc := 76) (tgt := 101) K dL_roomHolds_76 dL_roomHolds_77 (by decide) h (fun h => ?_) (fun h => ?_)
            · refine l_sub [] rfl ?_
              exact B_L_roomHolds_b101 K hR hret   _ _ _ h (by omega) (by omega)
            · refine l_aload_n (pc := 80) K 2 dL_roomHolds_80 rfl ?_
              refine l_iload_n (pc := 81) K 3 dL_roomHolds_81 rfl ?_
              refine l_iconst (pc := 82) (v := 0) K dL_roomHolds_82 (by decide) ?_
              refine l_bipush (pc := 83) (v := (-5)) K dL_roomHolds_83 (by decide) ?_
              refine l_bipush (pc := 85) (v := 99) K dL_roomHolds_85 (by decide) ?_
              refine lW_long (pc := 87) (st := []) (As := [.ref a0, .int x1, .int 0, .int (-5), .int 99]) K (M_L_seen K.2.2.2.2.2.2.1 _ _ _ _ _ _ _ h) dL_roomHolds_87 cw_L_seen cs_L_seen lw_RL_92 rfl rfl ⟨Nat.le_trans (by decide) hR.2.2.1, Nat.le_trans (by decide) hR.2.2.2⟩ rfl rfl (Nat.le_of_ble_eq_true rfl) (by rw [hR.1]; omega) (by rw [hR.2.1]; omega) (fun v39 h39 h => ?_)
              refine l_ldc2 (pc := 90) (v := (-1)) K dL_roomHolds_90 kl_88 ?_
              refine l_lc_ne (pc := 93) (tgt := 101) K dL_roomHolds_93 dL_roomHolds_94 (by decide) h (fun h => ?_) (fun h => ?_)
              · refine l_sub [] rfl ?_
                exact B_L_roomHolds_b101 K hR hret   _ _ _ h (by omega) (by omega)
              · refine l_sub [] rfl ?_
                exact B_L_roomHolds_b97 K hR hret   _ _ _ h (by omega) (by omega)
set_option maxRecDepth 100000 in
set_option maxHeartbeats 4000000 in
theorem M_L_roomHolds {D : va_G} {cA : Nat → ClassId} {h0 : Nat} {l : Launch} (hl : l.stackTraces = false) (a0 : Nat) (x1 : Int32) (a2 : Nat) (hp : hpT) (Qp : Int32 → hpT → Prop) (h : P_L_roomHolds a0 x1 a2 hp Qp) : vx_Met l yL_roomHolds (wsm yL_roomHolds cL_roomHolds 22 (some .boolean)) rm_L_roomHolds (va_Pc [.ref a0, .int x1, .ref a2] (Pre strL D cA h0 hp)) (QZp D cA h0 Qp) (XN h0) 784 4704 (Af h0) := by
  refine l_entry (by decide +kernel) hl (Nat.le_of_ble_eq_true rfl) (lv := [(0, .ref a0), (1, .int x1), (2, .ref a2)]) rfl ?_
  intro p e s m args below meth c K hr
  have K : Cx strL D cA h0 p l s m args meth c cL_roomHolds RL 22 := K
  refine l_sub [0, 1, 2] rfl ?_
  exact B_L_roomHolds_b0 (R := rm_L_roomHolds) K ⟨rfl, rfl, by decide, by decide⟩ (fun pc v hp cells slots lv d h hc hs => l_zret K hr d h hc hs) a0 x1 a2 hp 0 0 h (by decide) (by decide)
def rm_L_refuses : Room := { frames := 9, cells := 111, slots := 1241, locals := 186 }
set_option maxRecDepth 100000 in
set_option maxHeartbeats 4000000 in
theorem B_L_refuses_b474 {R : Room} {mc ms : Nat} {Q : State → Prop} {Qp : Int32 → hpT → Prop} (K : Cx strL D cA h0 p l s m args meth c cL_refuses RL 3) (hR : R.cells = mc ∧ R.slots = ms ∧ 9 ≤ R.frames ∧ 186 ≤ R.locals) (hret : ∀ (pc : Nat) (v : Int32) (hp : hpT) (cells slots : Nat) (lv : List (Nat × Value)), decode cL_refuses pc = .ok (.ireturn, 1) → rtZP Qp v hp → cells ≤ mc → slots ≤ ms → GL D cA h0 p l e R s m args below meth c 3 Q cells slots hp pc lv [.int v]) : ∀ (hp : hpT) (cells slots : Nat), P_L_refuses_b474  hp Qp → cells + (0) ≤ mc → slots + (0) ≤ ms → GL D cA h0 p l e R s m args below meth c 3 Q cells slots hp 474 [] [] := by
  intro  hp cells slots h hc hs
  unfold P_L_refuses_b474 at h
  refine l_iconst (pc := 474) (v := 0) K dL_refuses_474 (by decide) ?_
  exact hret _ _ _ _ _ _ dL_refuses_475 h (by omega) (by omega)
set_option maxRecDepth 100000 in
set_option maxHeartbeats 4000000 in
theorem B_L_refuses_b309 {R : Room} {mc ms : Nat} {Q : State → Prop} {Qp : Int32 → hpT → Prop} (K : Cx strL D cA h0 p l s m args meth c cL_refuses RL 3) (hR : R.cells = mc ∧ R.slots = ms ∧ 9 ≤ R.frames ∧ 186 ≤ R.locals) (hret : ∀ (pc : Nat) (v : Int32) (hp : hpT) (cells slots : Nat) (lv : List (Nat × Value)), decode cL_refuses pc = .ok (.ireturn, 1) → rtZP Qp v hp → cells ≤ mc → slots ≤ ms → GL D cA h0 p l e R s m args below meth c 3 Q cells slots hp pc lv [.int v]) : ∀ (a0 : Nat) (x1 : Int32) (hp : hpT) (cells slots : Nat), P_L_refuses_b309 a0 x1 hp Qp → cells + (40) ≤ mc → slots + (285) ≤ ms → GL D cA h0 p l e R s m args below meth c 3 Q cells slots hp 309 [(0, .ref a0), (1, .int x1)] [] := by
  intro a0 x1 hp cells slots h hc hs
  unfold P_L_refuses_b309 at h
  refine l_aload_n (pc := 309) K 0 dL_refuses_309 rfl ?_
  refine l_iconst (pc := 310) (v := 4) K dL_refuses_310 (by decide) ?_
  refine l_iconst (pc := 311) (v := 1) K dL_refuses_311 (by decide) ?_
  refine l_iconst (pc := 312) (v := 1) K dL_refuses_312 (by decide) ?_
  refine lW_long (pc := 313) (st := []) (As := [.ref a0, .int 4, .int 1, .int 1]) K (M_L_wall K.2.2.2.2.2.2.1 _ _ _ _ _ _ h) dL_refuses_313 cw_L_wall cs_L_wall lw_RL_115 rfl rfl ⟨Nat.le_trans (by decide) hR.2.2.1, Nat.le_trans (by decide) hR.2.2.2⟩ rfl rfl (Nat.le_of_ble_eq_true rfl) (by rw [hR.1]; omega) (by rw [hR.2.1]; omega) (fun v21 h21 h => ?_)
  refine l_ldc2 (pc := 316) (v := (-9000000000000000001)) K dL_refuses_316 kl_29 ?_
  refine l_lc_ne (pc := 319) (tgt := 474) K dL_refuses_319 dL_refuses_320 (by decide) h (fun h => ?_) (fun h => ?_)
  · refine l_sub [] rfl ?_
    exact B_L_refuses_b474 K hR hret   _ _ _ h (by omega) (by omega)
  · refine l_aload_n (pc := 323) K 0 dL_refuses_323 rfl ?_
    refine l_iconst (pc := 324) (v := 0) K dL_refuses_324 (by decide) ?_
    refine l_bipush (pc := 325) (v := 13) K dL_refuses_325 (by decide) ?_
    refine l_iconst (pc := 327) (v := 1) K dL_refuses_327 (by decide) ?_
    refine lW_long (pc := 328) (st := []) (As := [.ref a0, .int 0, .int 13, .int 1]) K (M_L_wall K.2.2.2.2.2.2.1 _ _ _ _ _ _ h) dL_refuses_328 cw_L_wall cs_L_wall lw_RL_115 rfl rfl ⟨Nat.le_trans (by decide) hR.2.2.1, Nat.le_trans (by decide) hR.2.2.2⟩ rfl rfl (Nat.le_of_ble_eq_true rfl) (by rw [hR.1]; omega) (by rw [hR.2.1]; omega) (fun v22 h22 h => ?_)
    refine l_ldc2 (pc := 331) (v := (-9000000000000000002)) K dL_refuses_331 kl_17 ?_
    refine l_lc_ne (pc := 334) (tgt := 474) K dL_refuses_334 dL_refuses_335 (by decide) h (fun h => ?_) (fun h => ?_)
    · refine l_sub [] rfl ?_
      exact B_L_refuses_b474 K hR hret   _ _ _ h (by omega) (by omega)
    · refine l_aload_n (pc := 338) K 0 dL_refuses_338 rfl ?_
      refine l_iconst (pc := 339) (v := 0) K dL_refuses_339 (by decide) ?_
      refine l_iconst (pc := 340) (v := 1) K dL_refuses_340 (by decide) ?_
      refine l_bipush (pc := 341) (v := 61) K dL_refuses_341 (by decide) ?_
      refine lW_long (pc := 343) (st := []) (As := [.ref a0, .int 0, .int 1, .int 61]) K (M_L_wall K.2.2.2.2.2.2.1 _ _ _ _ _ _ h) dL_refuses_343 cw_L_wall cs_L_wall lw_RL_115 rfl rfl ⟨Nat.le_trans (by decide) hR.2.2.1, Nat.le_trans (by decide) hR.2.2.2⟩ rfl rfl (Nat.le_of_ble_eq_true rfl) (by rw [hR.1]; omega) (by rw [hR.2.1]; omega) (fun v23 h23 h => ?_)
      refine l_ldc2 (pc := 346) (v := (-9000000000000000002)) K dL_refuses_346 kl_17 ?_
      refine l_lc_ne (pc := 349) (tgt := 474) K dL_refuses_349 dL_refuses_350 (by decide) h (fun h => ?_) (fun h => ?_)
      · refine l_sub [] rfl ?_
        exact B_L_refuses_b474 K hR hret   _ _ _ h (by omega) (by omega)
      · refine l_aload_n (pc := 353) K 0 dL_refuses_353 rfl ?_
        refine l_iconst (pc := 354) (v := 0) K dL_refuses_354 (by decide) ?_
        refine l_bipush (pc := 355) (v := 10) K dL_refuses_355 (by decide) ?_
        refine lW_long (pc := 357) (st := []) (As := [.ref a0, .int 0, .int 10]) K (M_L_hang K.2.2.2.2.2.2.1 _ _ _ _ _ h) dL_refuses_357 cw_L_hang cs_L_hang lw_RL_117 rfl rfl ⟨Nat.le_trans (by decide) hR.2.2.1, Nat.le_trans (by decide) hR.2.2.2⟩ rfl rfl (Nat.le_of_ble_eq_true rfl) (by rw [hR.1]; omega) (by rw [hR.2.1]; omega) (fun v24 h24 h => ?_)
        refine l_ldc2 (pc := 360) (v := (-9000000000000000001)) K dL_refuses_360 kl_29 ?_
        refine l_lc_ne (pc := 363) (tgt := 474) K dL_refuses_363 dL_refuses_364 (by decide) h (fun h => ?_) (fun h => ?_)
        · refine l_sub [] rfl ?_
          exact B_L_refuses_b474 K hR hret   _ _ _ h (by omega) (by omega)
        · refine l_aload_n (pc := 367) K 0 dL_refuses_367 rfl ?_
          refine l_iconst (pc := 368) (v := (-1)) K dL_refuses_368 (by decide) ?_
          refine l_iconst (pc := 369) (v := 0) K dL_refuses_369 (by decide) ?_
          refine lW_long (pc := 370) (st := []) (As := [.ref a0, .int (-1), .int 0]) K (M_L_hang K.2.2.2.2.2.2.1 _ _ _ _ _ h) dL_refuses_370 cw_L_hang cs_L_hang lw_RL_117 rfl rfl ⟨Nat.le_trans (by decide) hR.2.2.1, Nat.le_trans (by decide) hR.2.2.2⟩ rfl rfl (Nat.le_of_ble_eq_true rfl) (by rw [hR.1]; omega) (by rw [hR.2.1]; omega) (fun v25 h25 h => ?_)
          refine l_ldc2 (pc := 373) (v := (-9000000000000000001)) K dL_refuses_373 kl_29 ?_
          refine l_lc_ne (pc := 376) (tgt := 474) K dL_refuses_376 dL_refuses_377 (by decide) h (fun h => ?_) (fun h => ?_)
          · refine l_sub [] rfl ?_
            exact B_L_refuses_b474 K hR hret   _ _ _ h (by omega) (by omega)
          · refine l_aload_n (pc := 380) K 0 dL_refuses_380 rfl ?_
            refine l_iconst (pc := 381) (v := 0) K dL_refuses_381 (by decide) ?_
            refine l_iconst (pc := 382) (v := 4) K dL_refuses_382 (by decide) ?_
            refine l_iconst (pc := 383) (v := 1) K dL_refuses_383 (by decide) ?_
            refine lW_long (pc := 384) (st := []) (As := [.ref a0, .int 0, .int 4, .int 1]) K (M_L_lengthen K.2.2.2.2.2.2.1 _ _ _ _ _ _ h) dL_refuses_384 cw_L_lengthen cs_L_lengthen lw_RL_119 rfl rfl ⟨Nat.le_trans (by decide) hR.2.2.1, Nat.le_trans (by decide) hR.2.2.2⟩ rfl rfl (Nat.le_of_ble_eq_true rfl) (by rw [hR.1]; omega) (by rw [hR.2.1]; omega) (fun v26 h26 h => ?_)
            refine l_ldc2 (pc := 387) (v := (-9000000000000000001)) K dL_refuses_387 kl_29 ?_
            refine l_lc_ne (pc := 390) (tgt := 474) K dL_refuses_390 dL_refuses_391 (by decide) h (fun h => ?_) (fun h => ?_)
            · refine l_sub [] rfl ?_
              exact B_L_refuses_b474 K hR hret   _ _ _ h (by omega) (by omega)
            · refine l_aload_n (pc := 394) K 0 dL_refuses_394 rfl ?_
              refine l_iconst (pc := 395) (v := 4) K dL_refuses_395 (by decide) ?_
              refine lW_long (pc := 396) (st := []) (As := [.ref a0, .int 4]) K (M_L_strip K.2.2.2.2.2.2.1 _ _ _ _ h) dL_refuses_396 cw_L_strip cs_L_strip lw_RL_121 rfl rfl ⟨Nat.le_trans (by decide) hR.2.2.1, Nat.le_trans (by decide) hR.2.2.2⟩ rfl rfl (Nat.le_of_ble_eq_true rfl) (by rw [hR.1]; omega) (by rw [hR.2.1]; omega) (fun v27 h27 h => ?_)
              refine l_ldc2 (pc := 399) (v := (-9000000000000000001)) K dL_refuses_399 kl_29 ?_
              refine l_lc_ne (pc := 402) (tgt := 474) K dL_refuses_402 dL_refuses_403 (by decide) h (fun h => ?_) (fun h => ?_)
              · refine l_sub [] rfl ?_
                exact B_L_refuses_b474 K hR hret   _ _ _ h (by omega) (by omega)
              · refine l_aload_n (pc := 406) K 0 dL_refuses_406 rfl ?_
                refine l_iconst (pc := 407) (v := 4) K dL_refuses_407 (by decide) ?_
                refine l_iconst (pc := 408) (v := 0) K dL_refuses_408 (by decide) ?_
                refine lW_long (pc := 409) (st := []) (As := [.ref a0, .int 4, .int 0]) K (M_L_room K.2.2.2.2.2.2.1 _ _ _ _ _ h) dL_refuses_409 cw_L_room cs_L_room lw_RL_85 rfl rfl ⟨Nat.le_trans (by decide) hR.2.2.1, Nat.le_trans (by decide) hR.2.2.2⟩ rfl rfl (Nat.le_of_ble_eq_true rfl) (by rw [hR.1]; omega) (by rw [hR.2.1]; omega) (fun v28 h28 h => ?_)
                refine l_ldc2 (pc := 412) (v := (-9000000000000000001)) K dL_refuses_412 kl_29 ?_
                refine l_lc_ne (pc := 415) (tgt := 474) K dL_refuses_415 dL_refuses_416 (by decide) h (fun h => ?_) (fun h => ?_)
                · refine l_sub [] rfl ?_
                  exact B_L_refuses_b474 K hR hret   _ _ _ h (by omega) (by omega)
                · refine l_aload_n (pc := 419) K 0 dL_refuses_419 rfl ?_
                  refine l_iconst (pc := 420) (v := 0) K dL_refuses_420 (by decide) ?_
                  refine l_bipush (pc := 421) (v := 6) K dL_refuses_421 (by decide) ?_
                  refine lW_long (pc := 423) (st := []) (As := [.ref a0, .int 0, .int 6]) K (M_L_room K.2.2.2.2.2.2.1 _ _ _ _ _ h) dL_refuses_423 cw_L_room cs_L_room lw_RL_85 rfl rfl ⟨Nat.le_trans (by decide) hR.2.2.1, Nat.le_trans (by decide) hR.2.2.2⟩ rfl rfl (Nat.le_of_ble_eq_true rfl) (by rw [hR.1]; omega) (by rw [hR.2.1]; omega) (fun v29 h29 h => ?_)
                  refine l_ldc2 (pc := 426) (v := (-9000000000000000002)) K dL_refuses_426 kl_17 ?_
                  refine l_lc_ne (pc := 429) (tgt := 474) K dL_refuses_429 dL_refuses_430 (by decide) h (fun h => ?_) (fun h => ?_)
                  · refine l_sub [] rfl ?_
                    exact B_L_refuses_b474 K hR hret   _ _ _ h (by omega) (by omega)
                  · refine l_aload_n (pc := 433) K 0 dL_refuses_433 rfl ?_
                    refine l_iconst (pc := 434) (v := 0) K dL_refuses_434 (by decide) ?_
                    refine l_iconst (pc := 435) (v := 4) K dL_refuses_435 (by decide) ?_
                    refine l_iconst (pc := 436) (v := 0) K dL_refuses_436 (by decide) ?_
                    refine lW_long (pc := 437) (st := []) (As := [.ref a0, .int 0, .int 4, .int 0]) K (M_L_cut K.2.2.2.2.2.2.1 _ _ _ _ _ _ h) dL_refuses_437 cw_L_cut cs_L_cut lw_RL_90 rfl rfl ⟨Nat.le_trans (by decide) hR.2.2.1, Nat.le_trans (by decide) hR.2.2.2⟩ rfl rfl (Nat.le_of_ble_eq_true rfl) (by rw [hR.1]; omega) (by rw [hR.2.1]; omega) (fun v30 h30 h => ?_)
                    refine l_ldc2 (pc := 440) (v := (-9000000000000000001)) K dL_refuses_440 kl_29 ?_
                    refine l_lc_ne (pc := 443) (tgt := 474) K dL_refuses_443 dL_refuses_444 (by decide) h (fun h => ?_) (fun h => ?_)
                    · refine l_sub [] rfl ?_
                      exact B_L_refuses_b474 K hR hret   _ _ _ h (by omega) (by omega)
                    · refine l_aload_n (pc := 447) K 0 dL_refuses_447 rfl ?_
                      refine l_iconst (pc := 448) (v := 0) K dL_refuses_448 (by decide) ?_
                      refine l_iconst (pc := 449) (v := 4) K dL_refuses_449 (by decide) ?_
                      refine l_iconst (pc := 450) (v := 0) K dL_refuses_450 (by decide) ?_
                      refine l_iconst (pc := 451) (v := 0) K dL_refuses_451 (by decide) ?_
                      refine lW_long (pc := 452) (st := []) (As := [.ref a0, .int 0, .int 4, .int 0, .int 0]) K (M_L_seen K.2.2.2.2.2.2.1 _ _ _ _ _ _ _ h) dL_refuses_452 cw_L_seen cs_L_seen lw_RL_92 rfl rfl ⟨Nat.le_trans (by decide) hR.2.2.1, Nat.le_trans (by decide) hR.2.2.2⟩ rfl rfl (Nat.le_of_ble_eq_true rfl) (by rw [hR.1]; omega) (by rw [hR.2.1]; omega) (fun v31 h31 h => ?_)
                      refine l_ldc2 (pc := 455) (v := (-9000000000000000001)) K dL_refuses_455 kl_29 ?_
                      refine l_lc_ne (pc := 458) (tgt := 474) K dL_refuses_458 dL_refuses_459 (by decide) h (fun h => ?_) (fun h => ?_)
                      · refine l_sub [] rfl ?_
                        exact B_L_refuses_b474 K hR hret   _ _ _ h (by omega) (by omega)
                      · refine l_aload_n (pc := 462) K 0 dL_refuses_462 rfl ?_
                        refine lV_int (pc := 463) (st := []) (As := []) (b := a0) (ci := 7) (q0 := (RX7, TX7, 8)) K (fun _ e1 => M_X7_lost K.2.2.2.2.2.2.1 _ _ _ e1) h dL_refuses_463 ce_X7_lost cv_X7_lost lk_RL_103 rfl rfl rfl rfl ⟨Nat.le_trans (by decide) hR.2.2.1, Nat.le_trans (by decide) hR.2.2.2⟩ rfl rfl (Nat.le_of_ble_eq_true rfl) (by rw [hR.1]; omega) (by rw [hR.2.1]; omega) (fun v32 h32 h => ?_)
                        refine l_iload_n (pc := 466) K 1 dL_refuses_466 rfl ?_
                        refine l_icmp_ne (pc := 467) (tgt := 474) K dL_refuses_467 (by decide) h (fun h => ?_) (fun h => ?_)
                        · refine l_sub [] rfl ?_
                          exact B_L_refuses_b474 K hR hret   _ _ _ h (by omega) (by omega)
                        · refine l_iconst (pc := 470) (v := 1) K dL_refuses_470 (by decide) ?_
                          refine l_goto (pc := 471) (tgt := 475) K dL_refuses_471 (by decide) ?_
                          exact hret _ _ _ _ _ _ dL_refuses_475 h (by omega) (by omega)
set_option maxRecDepth 100000 in
set_option maxHeartbeats 4000000 in
theorem B_L_refuses_b264 {R : Room} {mc ms : Nat} {Q : State → Prop} {Qp : Int32 → hpT → Prop} (K : Cx strL D cA h0 p l s m args meth c cL_refuses RL 3) (hR : R.cells = mc ∧ R.slots = ms ∧ 9 ≤ R.frames ∧ 186 ≤ R.locals) (hret : ∀ (pc : Nat) (v : Int32) (hp : hpT) (cells slots : Nat) (lv : List (Nat × Value)), decode cL_refuses pc = .ok (.ireturn, 1) → rtZP Qp v hp → cells ≤ mc → slots ≤ ms → GL D cA h0 p l e R s m args below meth c 3 Q cells slots hp pc lv [.int v]) : ∀ (a0 : Nat) (x1 : Int32) (xs0 : Int32) (hp : hpT) (cells slots : Nat), P_L_refuses_b264 a0 x1 xs0 hp Qp → cells + (46) ≤ mc → slots + (321) ≤ ms → GL D cA h0 p l e R s m args below meth c 3 Q cells slots hp 264 [(0, .ref a0), (1, .int x1)] [.int xs0] := by
  intro a0 x1 xs0 hp cells slots h hc hs
  unfold P_L_refuses_b264 at h
  refine l_istore_n (pc := 264) (lv2 := [(2, .int xs0), (0, .ref a0), (1, .int x1)]) K dL_refuses_264 (by decide) rfl ?_
  refine l_iload_n (pc := 265) K 0 dL_refuses_265 rfl ?_
  refine l_if_eq (pc := 266) (tgt := 474) K dL_refuses_266 (by decide) h (fun h => ?_) (fun h => ?_)
  · refine l_sub [] rfl ?_
    exact B_L_refuses_b474 K hR hret   _ _ _ h (by omega) (by omega)
  · refine l_aload_n (pc := 269) K 1 dL_refuses_269 rfl ?_
    refine l_bipush (pc := 270) (v := 10) K dL_refuses_270 (by decide) ?_
    refine l_iconst (pc := 272) (v := 0) K dL_refuses_272 (by decide) ?_
    refine lW_long (pc := 273) (st := []) (As := [.ref a0, .int 10, .int 0]) K (M_L_lotOf K.2.2.2.2.2.2.1 _ _ _ _ _ h) dL_refuses_273 cw_L_lotOf cs_L_lotOf lw_RL_99 rfl rfl ⟨Nat.le_trans (by decide) hR.2.2.1, Nat.le_trans (by decide) hR.2.2.2⟩ rfl rfl (Nat.le_of_ble_eq_true rfl) (by rw [hR.1]; omega) (by rw [hR.2.1]; omega) (fun v33 h33 h => ?_)
    refine l_ldc2 (pc := 276) (v := (-9000000000000000001)) K dL_refuses_276 kl_29 ?_
    refine l_lc_ne (pc := 279) (tgt := 474) K dL_refuses_279 dL_refuses_280 (by decide) h (fun h => ?_) (fun h => ?_)
    · refine l_sub [] rfl ?_
      exact B_L_refuses_b474 K hR hret   _ _ _ h (by omega) (by omega)
    · refine l_aload_n (pc := 283) K 1 dL_refuses_283 rfl ?_
      refine l_iconst (pc := 284) (v := 0) K dL_refuses_284 (by decide) ?_
      refine l_iconst (pc := 285) (v := 5) K dL_refuses_285 (by decide) ?_
      refine lW_long (pc := 286) (st := []) (As := [.ref a0, .int 0, .int 5]) K (M_L_lotOf K.2.2.2.2.2.2.1 _ _ _ _ _ h) dL_refuses_286 cw_L_lotOf cs_L_lotOf lw_RL_99 rfl rfl ⟨Nat.le_trans (by decide) hR.2.2.1, Nat.le_trans (by decide) hR.2.2.2⟩ rfl rfl (Nat.le_of_ble_eq_true rfl) (by rw [hR.1]; omega) (by rw [hR.2.1]; omega) (fun v34 h34 h => ?_)
      refine l_ldc2 (pc := 289) (v := (-9000000000000000002)) K dL_refuses_289 kl_17 ?_
      refine l_lc_eq (pc := 292) (tgt := 309) K dL_refuses_292 dL_refuses_293 (by decide) h (fun h => ?_) (fun h => ?_)
      · refine l_sub [1, 2] rfl ?_
        exact B_L_refuses_b309 K hR hret  _ _ _ _ _ h (by omega) (by omega)
      · refine l_aload_n (pc := 296) K 1 dL_refuses_296 rfl ?_
        refine l_iconst (pc := 297) (v := 0) K dL_refuses_297 (by decide) ?_
        refine l_iconst (pc := 298) (v := 0) K dL_refuses_298 (by decide) ?_
        refine lW_long (pc := 299) (st := []) (As := [.ref a0, .int 0, .int 0]) K (M_L_lotOf K.2.2.2.2.2.2.1 _ _ _ _ _ h) dL_refuses_299 cw_L_lotOf cs_L_lotOf lw_RL_99 rfl rfl ⟨Nat.le_trans (by decide) hR.2.2.1, Nat.le_trans (by decide) hR.2.2.2⟩ rfl rfl (Nat.le_of_ble_eq_true rfl) (by rw [hR.1]; omega) (by rw [hR.2.1]; omega) (fun v35 h35 h => ?_)
        refine l_ldc2 (pc := 302) (v := (-9000000000000000001)) K dL_refuses_302 kl_29 ?_
        refine l_lc_ne (pc := 305) (tgt := 474) K dL_refuses_305 dL_refuses_306 (by decide) h (fun h => ?_) (fun h => ?_)
        · refine l_sub [] rfl ?_
          exact B_L_refuses_b474 K hR hret   _ _ _ h (by omega) (by omega)
        · refine l_sub [1, 2] rfl ?_
          exact B_L_refuses_b309 K hR hret  _ _ _ _ _ h (by omega) (by omega)
set_option maxRecDepth 100000 in
set_option maxHeartbeats 4000000 in
theorem B_L_refuses_b263 {R : Room} {mc ms : Nat} {Q : State → Prop} {Qp : Int32 → hpT → Prop} (K : Cx strL D cA h0 p l s m args meth c cL_refuses RL 3) (hR : R.cells = mc ∧ R.slots = ms ∧ 9 ≤ R.frames ∧ 186 ≤ R.locals) (hret : ∀ (pc : Nat) (v : Int32) (hp : hpT) (cells slots : Nat) (lv : List (Nat × Value)), decode cL_refuses pc = .ok (.ireturn, 1) → rtZP Qp v hp → cells ≤ mc → slots ≤ ms → GL D cA h0 p l e R s m args below meth c 3 Q cells slots hp pc lv [.int v]) : ∀ (a0 : Nat) (x1 : Int32) (hp : hpT) (cells slots : Nat), P_L_refuses_b263 a0 x1 hp Qp → cells + (46) ≤ mc → slots + (321) ≤ ms → GL D cA h0 p l e R s m args below meth c 3 Q cells slots hp 263 [(0, .ref a0), (1, .int x1)] [] := by
  intro a0 x1 hp cells slots h hc hs
  unfold P_L_refuses_b263 at h
  refine l_iconst (pc := 263) (v := 0) K dL_refuses_263 (by decide) ?_
  exact B_L_refuses_b264 K hR hret  _ _ _ _ _ _ h (by omega) (by omega)
set_option maxRecDepth 100000 in
set_option maxHeartbeats 4000000 in
theorem B_L_refuses_b0 {R : Room} {mc ms : Nat} {Q : State → Prop} {Qp : Int32 → hpT → Prop} (K : Cx strL D cA h0 p l s m args meth c cL_refuses RL 3) (hR : R.cells = mc ∧ R.slots = ms ∧ 9 ≤ R.frames ∧ 186 ≤ R.locals) (hret : ∀ (pc : Nat) (v : Int32) (hp : hpT) (cells slots : Nat) (lv : List (Nat × Value)), decode cL_refuses pc = .ok (.ireturn, 1) → rtZP Qp v hp → cells ≤ mc → slots ≤ ms → GL D cA h0 p l e R s m args below meth c 3 Q cells slots hp pc lv [.int v]) : ∀ (a0 : Nat) (hp : hpT) (cells slots : Nat), P_L_refuses_b0 a0 hp Qp → cells + (111) ≤ mc → slots + (1241) ≤ ms → GL D cA h0 p l e R s m args below meth c 3 Q cells slots hp 0 [(0, .ref a0)] [] := by
  intro a0 hp cells slots h hc hs
  unfold P_L_refuses_b0 at h
  refine l_aload_n (pc := 0) K 0 dL_refuses_0 rfl ?_
  refine lV_int (pc := 1) (st := []) (As := []) (b := a0) (ci := 7) (q0 := (RX7, TX7, 8)) K (fun _ e1 => M_X7_lost K.2.2.2.2.2.2.1 _ _ _ e1) h dL_refuses_1 ce_X7_lost cv_X7_lost lk_RL_103 rfl rfl rfl rfl ⟨Nat.le_trans (by decide) hR.2.2.1, Nat.le_trans (by decide) hR.2.2.2⟩ rfl rfl (Nat.le_of_ble_eq_true rfl) (by rw [hR.1]; omega) (by rw [hR.2.1]; omega) (fun v36 h36 h => ?_)
  refine l_istore_n (pc := 4) (lv2 := [(1, .int v36), (0, .ref a0)]) K dL_refuses_4 (by decide) rfl ?_
  refine l_aload_n (pc := 5) K 1 dL_refuses_5 rfl ?_
  refine l_iconst (pc := 6) (v := 0) K dL_refuses_6 (by decide) ?_
  refine l_iconst (pc := 7) (v := 1) K dL_refuses_7 (by decide) ?_
  refine l_iconst (pc := 8) (v := 0) K dL_refuses_8 (by decide) ?_
  refine lW_long (pc := 9) (st := []) (As := [.ref a0, .int 0, .int 1, .int 0]) K (M_L_pattern K.2.2.2.2.2.2.1 _ _ _ _ _ _ h) dL_refuses_9 cw_L_pattern cs_L_pattern lw_RL_107 rfl rfl ⟨Nat.le_trans (by decide) hR.2.2.1, Nat.le_trans (by decide) hR.2.2.2⟩ rfl rfl (Nat.le_of_ble_eq_true rfl) (by rw [hR.1]; omega) (by rw [hR.2.1]; omega) (fun v37 h37 h => ?_)
  refine l_ldc2 (pc := 12) (v := (-9000000000000000002)) K dL_refuses_12 kl_17 ?_
  refine l_lc_ne (pc := 15) (tgt := 263) K dL_refuses_15 dL_refuses_16 (by decide) h (fun h => ?_) (fun h => ?_)
  · refine l_sub [1, 0] rfl ?_
    exact B_L_refuses_b263 K hR hret  _ _ _ _ _ h (by omega) (by omega)
  · refine l_aload_n (pc := 19) K 1 dL_refuses_19 rfl ?_
    refine l_iconst (pc := 20) (v := 1) K dL_refuses_20 (by decide) ?_
    refine l_bipush (pc := 21) (v := 6) K dL_refuses_21 (by decide) ?_
    refine l_iconst (pc := 23) (v := 0) K dL_refuses_23 (by decide) ?_
    refine lW_long (pc := 24) (st := []) (As := [.ref a0, .int 1, .int 6, .int 0]) K (M_L_pattern K.2.2.2.2.2.2.1 _ _ _ _ _ _ h) dL_refuses_24 cw_L_pattern cs_L_pattern lw_RL_107 rfl rfl ⟨Nat.le_trans (by decide) hR.2.2.1, Nat.le_trans (by decide) hR.2.2.2⟩ rfl rfl (Nat.le_of_ble_eq_true rfl) (by rw [hR.1]; omega) (by rw [hR.2.1]; omega) (fun v38 h38 h => ?_)
    refine l_ldc2 (pc := 27) (v := (-9000000000000000002)) K dL_refuses_27 kl_17 ?_
    refine l_lc_ne (pc := 30) (tgt := 263) K dL_refuses_30 dL_refuses_31 (by decide) h (fun h => ?_) (fun h => ?_)
    · refine l_sub [1, 0] rfl ?_
      exact B_L_refuses_b263 K hR hret  _ _ _ _ _ h (by omega) (by omega)
    · refine l_aload_n (pc := 34) K 1 dL_refuses_34 rfl ?_
      refine l_iconst (pc := 35) (v := 1) K dL_refuses_35 (by decide) ?_
      refine l_iconst (pc := 36) (v := 1) K dL_refuses_36 (by decide) ?_
      refine l_bipush (pc := 37) (v := 6) K dL_refuses_37 (by decide) ?_
      refine lW_long (pc := 39) (st := []) (As := [.ref a0, .int 1, .int 1, .int 6]) K (M_L_pattern K.2.2.2.2.2.2.1 _ _ _ _ _ _ h) dL_refuses_39 cw_L_pattern cs_L_pattern lw_RL_107 rfl rfl ⟨Nat.le_trans (by decide) hR.2.2.1, Nat.le_trans (by decide) hR.2.2.2⟩ rfl rfl (Nat.le_of_ble_eq_true rfl) (by rw [hR.1]; omega) (by rw [hR.2.1]; omega) (fun v39 h39 h => ?_)
      refine l_ldc2 (pc := 42) (v := (-9000000000000000002)) K dL_refuses_42 kl_17 ?_
      refine l_lc_ne (pc := 45) (tgt := 263) K dL_refuses_45 dL_refuses_46 (by decide) h (fun h => ?_) (fun h => ?_)
      · refine l_sub [1, 0] rfl ?_
        exact B_L_refuses_b263 K hR hret  _ _ _ _ _ h (by omega) (by omega)
      · refine l_aload_n (pc := 49) K 1 dL_refuses_49 rfl ?_
        refine l_iconst (pc := 50) (v := 2) K dL_refuses_50 (by decide) ?_
        refine l_iconst (pc := 51) (v := 3) K dL_refuses_51 (by decide) ?_
        refine l_iconst (pc := 52) (v := 5) K dL_refuses_52 (by decide) ?_
        refine lW_long (pc := 53) (st := []) (As := [.ref a0, .int 2, .int 3, .int 5]) K (M_L_pattern K.2.2.2.2.2.2.1 _ _ _ _ _ _ h) dL_refuses_53 cw_L_pattern cs_L_pattern lw_RL_107 rfl rfl ⟨Nat.le_trans (by decide) hR.2.2.1, Nat.le_trans (by decide) hR.2.2.2⟩ rfl rfl (Nat.le_of_ble_eq_true rfl) (by rw [hR.1]; omega) (by rw [hR.2.1]; omega) (fun v40 h40 h => ?_)
        refine l_ldc2 (pc := 56) (v := (-9000000000000000002)) K dL_refuses_56 kl_17 ?_
        refine l_lc_ne (pc := 59) (tgt := 263) K dL_refuses_59 dL_refuses_60 (by decide) h (fun h => ?_) (fun h => ?_)
        · refine l_sub [1, 0] rfl ?_
          exact B_L_refuses_b263 K hR hret  _ _ _ _ _ h (by omega) (by omega)
        · refine l_aload_n (pc := 63) K 1 dL_refuses_63 rfl ?_
          refine l_bipush (pc := 64) (v := 6) K dL_refuses_64 (by decide) ?_
          refine l_iconst (pc := 66) (v := 0) K dL_refuses_66 (by decide) ?_
          refine l_iconst (pc := 67) (v := 0) K dL_refuses_67 (by decide) ?_
          refine l_iconst (pc := 68) (v := 0) K dL_refuses_68 (by decide) ?_
          refine lW_long (pc := 69) (st := []) (As := [.ref a0, .int 6, .int 0, .int 0, .int 0]) K (M_L_paint K.2.2.2.2.2.2.1 _ _ _ _ _ _ _ h) dL_refuses_69 cw_L_paint cs_L_paint lw_RL_109 rfl rfl ⟨Nat.le_trans (by decide) hR.2.2.1, Nat.le_trans (by decide) hR.2.2.2⟩ rfl rfl (Nat.le_of_ble_eq_true rfl) (by rw [hR.1]; omega) (by rw [hR.2.1]; omega) (fun v41 h41 h => ?_)
          refine l_ldc2 (pc := 72) (v := (-9000000000000000001)) K dL_refuses_72 kl_29 ?_
          refine l_lc_ne (pc := 75) (tgt := 263) K dL_refuses_75 dL_refuses_76 (by decide) h (fun h => ?_) (fun h => ?_)
          · refine l_sub [1, 0] rfl ?_
            exact B_L_refuses_b263 K hR hret  _ _ _ _ _ h (by omega) (by omega)
          · refine l_aload_n (pc := 79) K 1 dL_refuses_79 rfl ?_
            refine l_iconst (pc := 80) (v := 0) K dL_refuses_80 (by decide) ?_
            refine l_iconst (pc := 81) (v := 5) K dL_refuses_81 (by decide) ?_
            refine l_iconst (pc := 82) (v := 0) K dL_refuses_82 (by decide) ?_
            refine l_iconst (pc := 83) (v := 0) K dL_refuses_83 (by decide) ?_
            refine lW_long (pc := 84) (st := []) (As := [.ref a0, .int 0, .int 5, .int 0, .int 0]) K (M_L_paint K.2.2.2.2.2.2.1 _ _ _ _ _ _ _ h) dL_refuses_84 cw_L_paint cs_L_paint lw_RL_109 rfl rfl ⟨Nat.le_trans (by decide) hR.2.2.1, Nat.le_trans (by decide) hR.2.2.2⟩ rfl rfl (Nat.le_of_ble_eq_true rfl) (by rw [hR.1]; omega) (by rw [hR.2.1]; omega) (fun v42 h42 h => ?_)
            refine l_ldc2 (pc := 87) (v := (-9000000000000000001)) K dL_refuses_87 kl_29 ?_
            refine l_lc_ne (pc := 90) (tgt := 263) K dL_refuses_90 dL_refuses_91 (by decide) h (fun h => ?_) (fun h => ?_)
            · refine l_sub [1, 0] rfl ?_
              exact B_L_refuses_b263 K hR hret  _ _ _ _ _ h (by omega) (by omega)
            · refine l_aload_n (pc := 94) K 1 dL_refuses_94 rfl ?_
              refine l_iconst (pc := 95) (v := 0) K dL_refuses_95 (by decide) ?_
              refine l_iconst (pc := 96) (v := 0) K dL_refuses_96 (by decide) ?_
              refine l_iconst (pc := 97) (v := (-1)) K dL_refuses_97 (by decide) ?_
              refine l_iconst (pc := 98) (v := 0) K dL_refuses_98 (by decide) ?_
              refine lW_long (pc := 99) (st := []) (As := [.ref a0, .int 0, .int 0, .int (-1), .int 0]) K (M_L_paint K.2.2.2.2.2.2.1 _ _ _ _ _ _ _ h) dL_refuses_99 cw_L_paint cs_L_paint lw_RL_109 rfl rfl ⟨Nat.le_trans (by decide) hR.2.2.1, Nat.le_trans (by decide) hR.2.2.2⟩ rfl rfl (Nat.le_of_ble_eq_true rfl) (by rw [hR.1]; omega) (by rw [hR.2.1]; omega) (fun v43 h43 h => ?_)
              refine l_ldc2 (pc := 102) (v := (-9000000000000000001)) K dL_refuses_102 kl_29 ?_
              refine l_lc_ne (pc := 105) (tgt := 263) K dL_refuses_105 dL_refuses_106 (by decide) h (fun h => ?_) (fun h => ?_)
              · refine l_sub [1, 0] rfl ?_
                exact B_L_refuses_b263 K hR hret  _ _ _ _ _ h (by omega) (by omega)
              · refine l_aload_n (pc := 109) K 1 dL_refuses_109 rfl ?_
                refine l_iconst (pc := 110) (v := 0) K dL_refuses_110 (by decide) ?_
                refine l_iconst (pc := 111) (v := 0) K dL_refuses_111 (by decide) ?_
                refine l_iconst (pc := 112) (v := 0) K dL_refuses_112 (by decide) ?_
                refine l_bipush (pc := 113) (v := 8) K dL_refuses_113 (by decide) ?_
                refine lW_long (pc := 115) (st := []) (As := [.ref a0, .int 0, .int 0, .int 0, .int 8]) K (M_L_paint K.2.2.2.2.2.2.1 _ _ _ _ _ _ _ h) dL_refuses_115 cw_L_paint cs_L_paint lw_RL_109 rfl rfl ⟨Nat.le_trans (by decide) hR.2.2.1, Nat.le_trans (by decide) hR.2.2.2⟩ rfl rfl (Nat.le_of_ble_eq_true rfl) (by rw [hR.1]; omega) (by rw [hR.2.1]; omega) (fun v44 h44 h => ?_)
                refine l_ldc2 (pc := 118) (v := (-9000000000000000002)) K dL_refuses_118 kl_17 ?_
                refine l_lc_ne (pc := 121) (tgt := 263) K dL_refuses_121 dL_refuses_122 (by decide) h (fun h => ?_) (fun h => ?_)
                · refine l_sub [1, 0] rfl ?_
                  exact B_L_refuses_b263 K hR hret  _ _ _ _ _ h (by omega) (by omega)
                · refine l_aload_n (pc := 125) K 1 dL_refuses_125 rfl ?_
                  refine l_iconst (pc := 126) (v := (-1)) K dL_refuses_126 (by decide) ?_
                  refine l_iconst (pc := 127) (v := 0) K dL_refuses_127 (by decide) ?_
                  refine l_iconst (pc := 128) (v := 0) K dL_refuses_128 (by decide) ?_
                  refine lW_long (pc := 129) (st := []) (As := [.ref a0, .int (-1), .int 0, .int 0]) K (M_L_colour K.2.2.2.2.2.2.1 _ _ _ _ _ _ h) dL_refuses_129 cw_L_colour cs_L_colour lw_RL_80 rfl rfl ⟨Nat.le_trans (by decide) hR.2.2.1, Nat.le_trans (by decide) hR.2.2.2⟩ rfl rfl (Nat.le_of_ble_eq_true rfl) (by rw [hR.1]; omega) (by rw [hR.2.1]; omega) (fun v45 h45 h => ?_)
                  refine l_ldc2 (pc := 132) (v := (-9000000000000000001)) K dL_refuses_132 kl_29 ?_
                  refine l_lc_ne (pc := 135) (tgt := 263) K dL_refuses_135 dL_refuses_136 (by decide) h (fun h => ?_) (fun h => ?_)
                  · refine l_sub [1, 0] rfl ?_
                    exact B_L_refuses_b263 K hR hret  _ _ _ _ _ h (by omega) (by omega)
                  · refine l_aload_n (pc := 139) K 1 dL_refuses_139 rfl ?_
                    refine l_bipush (pc := 140) (v := 6) K dL_refuses_140 (by decide) ?_
                    refine l_iconst (pc := 142) (v := 1) K dL_refuses_142 (by decide) ?_
                    refine lW_long (pc := 143) (st := []) (As := [.ref a0, .int 6, .int 1]) K (M_L_repeat K.2.2.2.2.2.2.1 _ _ _ _ _ h) dL_refuses_143 cw_L_repeat cs_L_repeat lw_RL_73 rfl rfl ⟨Nat.le_trans (by decide) hR.2.2.1, Nat.le_trans (by decide) hR.2.2.2⟩ rfl rfl (Nat.le_of_ble_eq_true rfl) (by rw [hR.1]; omega) (by rw [hR.2.1]; omega) (fun v46 h46 h => ?_)
                    refine l_ldc2 (pc := 146) (v := (-9000000000000000001)) K dL_refuses_146 kl_29 ?_
                    refine l_lc_ne (pc := 149) (tgt := 263) K dL_refuses_149 dL_refuses_150 (by decide) h (fun h => ?_) (fun h => ?_)
                    · refine l_sub [1, 0] rfl ?_
                      exact B_L_refuses_b263 K hR hret  _ _ _ _ _ h (by omega) (by omega)
                    · refine l_aload_n (pc := 153) K 1 dL_refuses_153 rfl ?_
                      refine l_iconst (pc := 154) (v := (-1)) K dL_refuses_154 (by decide) ?_
                      refine l_iconst (pc := 155) (v := 1) K dL_refuses_155 (by decide) ?_
                      refine lW_long (pc := 156) (st := []) (As := [.ref a0, .int (-1), .int 1]) K (M_L_repeatAnew K.2.2.2.2.2.2.1 _ _ _ _ _ h) dL_refuses_156 cw_L_repeatAnew cs_L_repeatAnew lw_RL_78 rfl rfl ⟨Nat.le_trans (by decide) hR.2.2.1, Nat.le_trans (by decide) hR.2.2.2⟩ rfl rfl (Nat.le_of_ble_eq_true rfl) (by rw [hR.1]; omega) (by rw [hR.2.1]; omega) (fun v47 h47 h => ?_)
                      refine l_ldc2 (pc := 159) (v := (-9000000000000000001)) K dL_refuses_159 kl_29 ?_
                      refine l_lc_ne (pc := 162) (tgt := 263) K dL_refuses_162 dL_refuses_163 (by decide) h (fun h => ?_) (fun h => ?_)
                      · refine l_sub [1, 0] rfl ?_
                        exact B_L_refuses_b263 K hR hret  _ _ _ _ _ h (by omega) (by omega)
                      · refine l_aload_n (pc := 166) K 1 dL_refuses_166 rfl ?_
                        refine l_bipush (pc := 167) (v := 6) K dL_refuses_167 (by decide) ?_
                        refine l_iconst (pc := 169) (v := 1) K dL_refuses_169 (by decide) ?_
                        refine lW_long (pc := 170) (st := []) (As := [.ref a0, .int 6, .int 1]) K (M_L_roller K.2.2.2.2.2.2.1 _ _ _ _ _ h) dL_refuses_170 cw_L_roller cs_L_roller lw_RL_111 rfl rfl ⟨Nat.le_trans (by decide) hR.2.2.1, Nat.le_trans (by decide) hR.2.2.2⟩ rfl rfl (Nat.le_of_ble_eq_true rfl) (by rw [hR.1]; omega) (by rw [hR.2.1]; omega) (fun v48 h48 h => ?_)
                        refine l_ldc2 (pc := 173) (v := (-9000000000000000001)) K dL_refuses_173 kl_29 ?_
                        refine l_lc_ne (pc := 176) (tgt := 263) K dL_refuses_176 dL_refuses_177 (by decide) h (fun h => ?_) (fun h => ?_)
                        · refine l_sub [1, 0] rfl ?_
                          exact B_L_refuses_b263 K hR hret  _ _ _ _ _ h (by omega) (by omega)
                        · refine l_aload_n (pc := 180) K 1 dL_refuses_180 rfl ?_
                          refine l_iconst (pc := 181) (v := 0) K dL_refuses_181 (by decide) ?_
                          refine l_bipush (pc := 182) (v := 61) K dL_refuses_182 (by decide) ?_
                          refine lW_long (pc := 184) (st := []) (As := [.ref a0, .int 0, .int 61]) K (M_L_roller K.2.2.2.2.2.2.1 _ _ _ _ _ h) dL_refuses_184 cw_L_roller cs_L_roller lw_RL_111 rfl rfl ⟨Nat.le_trans (by decide) hR.2.2.1, Nat.le_trans (by decide) hR.2.2.2⟩ rfl rfl (Nat.le_of_ble_eq_true rfl) (by rw [hR.1]; omega) (by rw [hR.2.1]; omega) (fun v49 h49 h => ?_)
                          refine l_ldc2 (pc := 187) (v := (-9000000000000000002)) K dL_refuses_187 kl_17 ?_
                          refine l_lc_ne (pc := 190) (tgt := 263) K dL_refuses_190 dL_refuses_191 (by decide) h (fun h => ?_) (fun h => ?_)
                          · refine l_sub [1, 0] rfl ?_
                            exact B_L_refuses_b263 K hR hret  _ _ _ _ _ h (by omega) (by omega)
                          · refine l_aload_n (pc := 194) K 1 dL_refuses_194 rfl ?_
                            refine l_bipush (pc := 195) (v := 8) K dL_refuses_195 (by decide) ?_
                            refine l_iconst (pc := 197) (v := 0) K dL_refuses_197 (by decide) ?_
                            refine l_iconst (pc := 198) (v := 1) K dL_refuses_198 (by decide) ?_
                            refine l_iconst (pc := 199) (v := 1) K dL_refuses_199 (by decide) ?_
                            refine lW_long (pc := 200) (st := []) (As := [.ref a0, .int 8, .int 0, .int 1, .int 1]) K (M_L_lot K.2.2.2.2.2.2.1 _ _ _ _ _ _ _ h) dL_refuses_200 cw_L_lot cs_L_lot lw_RL_113 rfl rfl ⟨Nat.le_trans (by decide) hR.2.2.1, Nat.le_trans (by decide) hR.2.2.2⟩ rfl rfl (Nat.le_of_ble_eq_true rfl) (by rw [hR.1]; omega) (by rw [hR.2.1]; omega) (fun v50 h50 h => ?_)
                            refine l_ldc2 (pc := 203) (v := (-9000000000000000001)) K dL_refuses_203 kl_29 ?_
                            refine l_lc_ne (pc := 206) (tgt := 263) K dL_refuses_206 dL_refuses_207 (by decide) h (fun h => ?_) (fun h => ?_)
                            · refine l_sub [1, 0] rfl ?_
                              exact B_L_refuses_b263 K hR hret  _ _ _ _ _ h (by omega) (by omega)
                            · refine l_aload_n (pc := 210) K 1 dL_refuses_210 rfl ?_
                              refine l_iconst (pc := 211) (v := 0) K dL_refuses_211 (by decide) ?_
                              refine l_bipush (pc := 212) (v := 10) K dL_refuses_212 (by decide) ?_
                              refine l_iconst (pc := 214) (v := 1) K dL_refuses_214 (by decide) ?_
                              refine l_iconst (pc := 215) (v := 1) K dL_refuses_215 (by decide) ?_
                              refine lW_long (pc := 216) (st := []) (As := [.ref a0, .int 0, .int 10, .int 1, .int 1]) K (M_L_lot K.2.2.2.2.2.2.1 _ _ _ _ _ _ _ h) dL_refuses_216 cw_L_lot cs_L_lot lw_RL_113 rfl rfl ⟨Nat.le_trans (by decide) hR.2.2.1, Nat.le_trans (by decide) hR.2.2.2⟩ rfl rfl (Nat.le_of_ble_eq_true rfl) (by rw [hR.1]; omega) (by rw [hR.2.1]; omega) (fun v51 h51 h => ?_)
                              refine l_ldc2 (pc := 219) (v := (-9000000000000000002)) K dL_refuses_219 kl_17 ?_
                              refine l_lc_ne (pc := 222) (tgt := 263) K dL_refuses_222 dL_refuses_223 (by decide) h (fun h => ?_) (fun h => ?_)
                              · refine l_sub [1, 0] rfl ?_
                                exact B_L_refuses_b263 K hR hret  _ _ _ _ _ h (by omega) (by omega)
                              · refine l_aload_n (pc := 226) K 1 dL_refuses_226 rfl ?_
                                refine l_iconst (pc := 227) (v := 0) K dL_refuses_227 (by decide) ?_
                                refine l_iconst (pc := 228) (v := 0) K dL_refuses_228 (by decide) ?_
                                refine l_bipush (pc := 229) (v := 21) K dL_refuses_229 (by decide) ?_
                                refine l_iconst (pc := 231) (v := 1) K dL_refuses_231 (by decide) ?_
                                refine lW_long (pc := 232) (st := []) (As := [.ref a0, .int 0, .int 0, .int 21, .int 1]) K (M_L_lot K.2.2.2.2.2.2.1 _ _ _ _ _ _ _ h) dL_refuses_232 cw_L_lot cs_L_lot lw_RL_113 rfl rfl ⟨Nat.le_trans (by decide) hR.2.2.1, Nat.le_trans (by decide) hR.2.2.2⟩ rfl rfl (Nat.le_of_ble_eq_true rfl) (by rw [hR.1]; omega) (by rw [hR.2.1]; omega) (fun v52 h52 h => ?_)
                                refine l_ldc2 (pc := 235) (v := (-9000000000000000002)) K dL_refuses_235 kl_17 ?_
                                refine l_lc_ne (pc := 238) (tgt := 263) K dL_refuses_238 dL_refuses_239 (by decide) h (fun h => ?_) (fun h => ?_)
                                · refine l_sub [1, 0] rfl ?_
                                  exact B_L_refuses_b263 K hR hret  _ _ _ _ _ h (by omega) (by omega)
                                · refine l_aload_n (pc := 242) K 1 dL_refuses_242 rfl ?_
                                  refine l_iconst (pc := 243) (v := 0) K dL_refuses_243 (by decide) ?_
                                  refine l_iconst (pc := 244) (v := 0) K dL_refuses_244 (by decide) ?_
                                  refine l_iconst (pc := 245) (v := 1) K dL_refuses_245 (by decide) ?_
                                  refine l_sipush (pc := 246) (v := 201) K dL_refuses_246 (by decide) ?_
                                  refine lW_long (pc := 249) (st := []) (As := [.ref a0, .int 0, .int 0, .int 1, .int 201]) K (M_L_lot K.2.2.2.2.2.2.1 _ _ _ _ _ _ _ h) dL_refuses_249 cw_L_lot cs_L_lot lw_RL_113 rfl rfl ⟨Nat.le_trans (by decide) hR.2.2.1, Nat.le_trans (by decide) hR.2.2.2⟩ rfl rfl (Nat.le_of_ble_eq_true rfl) (by rw [hR.1]; omega) (by rw [hR.2.1]; omega) (fun v53 h53 h => ?_)
                                  refine l_ldc2 (pc := 252) (v := (-9000000000000000002)) K dL_refuses_252 kl_17 ?_
                                  refine l_lc_ne (pc := 255) (tgt := 263) K dL_refuses_255 dL_refuses_256 (by decide) h (fun h => ?_) (fun h => ?_)
                                  · refine l_sub [1, 0] rfl ?_
                                    exact B_L_refuses_b263 K hR hret  _ _ _ _ _ h (by omega) (by omega)
                                  · refine l_iconst (pc := 259) (v := 1) K dL_refuses_259 (by decide) ?_
                                    refine l_goto (pc := 260) (tgt := 264) K dL_refuses_260 (by decide) ?_
                                    refine l_sub [1, 0] rfl ?_
                                    exact B_L_refuses_b264 K hR hret  _ _ _ _ _ _ h (by omega) (by omega)
set_option maxRecDepth 100000 in
set_option maxHeartbeats 4000000 in
theorem M_L_refuses {D : va_G} {cA : Nat → ClassId} {h0 : Nat} {l : Launch} (hl : l.stackTraces = false) (a0 : Nat) (hp : hpT) (Qp : Int32 → hpT → Prop) (h : P_L_refuses a0 hp Qp) : vx_Met l yL_refuses (wsm yL_refuses cL_refuses 3 (some .boolean)) rm_L_refuses (va_Pc [.ref a0] (Pre strL D cA h0 hp)) (QZp D cA h0 Qp) (XN h0) 111 1241 (Af h0) := by
  refine l_entry (by decide +kernel) hl (Nat.le_of_ble_eq_true rfl) (lv := [(0, .ref a0)]) rfl ?_
  intro p e s m args below meth c K hr
  have K : Cx strL D cA h0 p l s m args meth c cL_refuses RL 3 := K
  refine l_sub [0] rfl ?_
  exact B_L_refuses_b0 (R := rm_L_refuses) K ⟨rfl, rfl, by decide, by decide⟩ (fun pc v hp cells slots lv d h hc hs => l_zret K hr d h hc hs) a0 hp 0 0 h (by decide) (by decide)
end
