/-! the machine does what the functions say: X8_hang X8_lose X8_isWall X8_lengthen X8_strip X8_sum X8_room X8_cut X8_seen X8_lost -/
section
variable {D : va_G} {cA : Nat → ClassId} {h0 : Nat} {p : Program} {l : Launch} {e : Env} {s : State} {m : MethodId} {args : Array Value} {below : List Frame} {meth : Method} {c : Code}
def rm_X8_hang : Room := { frames := 4, cells := 0, slots := 0, locals := 97 }
set_option maxRecDepth 100000 in
set_option maxHeartbeats 4000000 in
theorem B_X8_hang_b58 (K : Cx strL D cA h0 p l s m args meth c cX8_hang RX8 8) (hr : meth.sig.returnType = (some .int)) (E : ∀ x ∈ c.exceptionTable.toList, False) {res : (Int32 ⊕ String) × hpT} : ∀ (xs0 : Int32) (as1 : Nat) (hp : hpT), F_X8_hang_b58  xs0 as1 hp = some res → G D cA h0 p l e rm_X8_hang s m args below meth c 8 (vx_MQ below (QI D cA h0 res) (XE D cA h0 res) args s 0 0 (Af h0)) 0 0 hp 58 [none, none, none, none, none, none, none, none] [.int xs0, va_rf (some as1)] := by
  intro xs0 as1 hp h
  unfold F_X8_hang_b58 at h
  refine v_int (pc := 58) (st := []) (As := [.int xs0]) (b := as1) (ci := 8) (q0 := (RX8, TX8, 29)) K E (fun _ e1 => M_X8_refused K.2.2.2.2.2.2.1 _ _ _ _ e1) h dX8_hang_58 ce_X8_refused cv_X8_refused lk_RX8_84 rfl rfl rfl rfl (by decide) rfl rfl (Nat.le_of_ble_eq_true rfl) rfl rfl (by decide) (by decide) (fun x21 h21 h => ?_)
  refine r_pop (pc := 61) K dX8_hang_61 rfl ?_
  refine r_iconst (pc := 62) (v := 0) K dX8_hang_62 (by decide) ?_
  exact r_ireturn (pc := 63) K hr dX8_hang_63 h (by decide) (by decide)
set_option maxRecDepth 100000 in
set_option maxHeartbeats 4000000 in
theorem B_X8_hang_b48 (K : Cx strL D cA h0 p l s m args meth c cX8_hang RX8 8) (hr : meth.sig.returnType = (some .int)) (E : ∀ x ∈ c.exceptionTable.toList, False) {res : (Int32 ⊕ String) × hpT} : ∀ (a0 : Nat) (x3 : Int32) (hp : hpT), F_X8_hang_b48  a0 x3 hp = some res → G D cA h0 p l e rm_X8_hang s m args below meth c 8 (vx_MQ below (QI D cA h0 res) (XE D cA h0 res) args s 0 0 (Af h0)) 0 0 hp 48 [some (va_rf (some a0)), none, none, some (.int x3), none, none, none, none] [] := by
  intro a0 x3 hp h
  unfold F_X8_hang_b48 at h
  refine r_aload_n (pc := 48) K dX8_hang_48 rfl ?_
  refine r_iload_n (pc := 49) K dX8_hang_49 rfl ?_
  refine r_if_ne (pc := 50) (tgt := 57) K dX8_hang_50 (by decide) h (fun h _ => ?_) (fun h _ => ?_)
  · refine r_iconst (pc := 57) (v := 2) K dX8_hang_57 (by decide) ?_
    exact r_weak (lv2 := [none, none, none, none, none, none, none, none]) trivial ((B_X8_hang_b58 K hr E  _ _ _ h))
  · refine r_iconst (pc := 53) (v := 1) K dX8_hang_53 (by decide) ?_
    refine r_goto (pc := 54) (tgt := 58) K dX8_hang_54 (by decide) ?_
    exact r_weak (lv2 := [none, none, none, none, none, none, none, none]) trivial ((B_X8_hang_b58 K hr E  _ _ _ h))
set_option maxRecDepth 100000 in
set_option maxHeartbeats 4000000 in
theorem B_X8_hang_b116 (K : Cx strL D cA h0 p l s m args meth c cX8_hang RX8 8) (hr : meth.sig.returnType = (some .int)) (E : ∀ x ∈ c.exceptionTable.toList, False) {res : (Int32 ⊕ String) × hpT} {K74 : Nat → Int32 → Int32 → Int32 → Int32 → Int32 → hpT → Rs Int32} (hK74 : ∀ (a0 : Nat) (x1 : Int32) (x2 : Int32) (x4 : Int32) (x5 : Int32) (x6 : Int32) (hp : hpT), K74 a0 x1 x2 x4 x5 x6 hp = some res → G D cA h0 p l e rm_X8_hang s m args below meth c 8 (vx_MQ below (QI D cA h0 res) (XE D cA h0 res) args s 0 0 (Af h0)) 0 0 hp 74 [some (va_rf (some a0)), some (.int x1), some (.int x2), none, some (.int x4), some (.int x5), some (.int x6), none] []) : ∀ (a0 : Nat) (x1 : Int32) (x2 : Int32) (x4 : Int32) (x5 : Int32) (x6 : Int32) (hp : hpT), F_X8_hang_b116 K74 a0 x1 x2 x4 x5 x6 hp = some res → G D cA h0 p l e rm_X8_hang s m args below meth c 8 (vx_MQ below (QI D cA h0 res) (XE D cA h0 res) args s 0 0 (Af h0)) 0 0 hp 116 [some (va_rf (some a0)), some (.int x1), some (.int x2), none, some (.int x4), some (.int x5), some (.int x6), none] [] := by
  intro a0 x1 x2 x4 x5 x6 hp h
  unfold F_X8_hang_b116 at h
  refine r_iinc (pc := 116) (v := (x6 + 1)) (lv' := [some (va_rf (some a0)), some (.int x1), some (.int x2), none, some (.int x4), some (.int x5), some (.int (x6 + 1)), none]) K dX8_hang_116 rfl rfl (by decide) rfl ?_
  refine r_goto (pc := 119) (tgt := 74) K dX8_hang_119 (by decide) ?_
  exact r_weak (lv2 := [some (va_rf (some a0)), some (.int x1), some (.int x2), none, some (.int x4), some (.int x5), some (.int (x6 + 1)), none]) ⟨rfl, rfl, rfl, rfl, rfl, rfl, trivial⟩ ((hK74 _ _ _ _ _ _ _ h))
set_option maxRecDepth 100000 in
set_option maxHeartbeats 4000000 in
theorem B_X8_hang_b134 (K : Cx strL D cA h0 p l s m args meth c cX8_hang RX8 8) (hr : meth.sig.returnType = (some .int)) (E : ∀ x ∈ c.exceptionTable.toList, False) {res : (Int32 ⊕ String) × hpT} : ∀ (a0 : Nat) (x1 : Int32) (x2 : Int32) (x4 : Int32) (xs0 : Int32) (as1 : Nat) (hp : hpT), F_X8_hang_b134  a0 x1 x2 x4 xs0 as1 hp = some res → G D cA h0 p l e rm_X8_hang s m args below meth c 8 (vx_MQ below (QI D cA h0 res) (XE D cA h0 res) args s 0 0 (Af h0)) 0 0 hp 134 [some (va_rf (some a0)), some (.int x1), some (.int x2), none, some (.int x4), none, none, none] [.int xs0, va_rf (some as1)] := by
  intro a0 x1 x2 x4 xs0 as1 hp h
  unfold F_X8_hang_b134 at h
  refine v_int (pc := 134) (st := []) (As := [.int xs0]) (b := as1) (ci := 8) (q0 := (RX8, TX8, 29)) K E (fun _ e1 => M_X8_refused K.2.2.2.2.2.2.1 _ _ _ _ e1) h dX8_hang_134 ce_X8_refused cv_X8_refused lk_RX8_84 rfl rfl rfl rfl (by decide) rfl rfl (Nat.le_of_ble_eq_true rfl) rfl rfl (by decide) (by decide) (fun x22 h22 h => ?_)
  refine r_if_eq (pc := 137) (tgt := 142) K dX8_hang_137 (by decide) h (fun h _ => ?_) (fun h _ => ?_)
  · refine r_aload_n (pc := 142) K dX8_hang_142 rfl ?_
    refine r_iload_n (pc := 143) K dX8_hang_143 rfl ?_
    refine r_iload_n (pc := 144) K dX8_hang_144 rfl ?_
    refine r_iload (pc := 145) K dX8_hang_145 rfl ?_
    refine r_iconst (pc := 147) (v := 1) K dX8_hang_147 (by decide) ?_
    refine v_int (pc := 148) (st := []) (As := [.int x1, .int x2, .int x4, .int 1]) (b := a0) (ci := 8) (q0 := (RX8, TX8, 29)) K E (fun _ e1 => M_X8_cutAll K.2.2.2.2.2.2.1 _ _ _ _ _ _ _ e1) h dX8_hang_148 ce_X8_cutAll cv_X8_cutAll lk_RX8_140 rfl rfl rfl rfl (by decide) rfl rfl (Nat.le_of_ble_eq_true rfl) rfl rfl (by decide) (by decide) (fun x23 h23 h => ?_)
    refine r_pop (pc := 151) K dX8_hang_151 rfl ?_
    refine r_aload_n (pc := 152) K dX8_hang_152 rfl ?_
    refine r_getR (pc := 153) K dX8_hang_153 fk_RX8_52 h (fun r24 h => ?_)
    refine r_iload_n (pc := 156) K dX8_hang_156 rfl ?_
    refine r_iload_n (pc := 157) K dX8_hang_157 rfl ?_
    refine nn_k h (fun a25 hz hq25 => ?_)
    subst hz
    have h := hq25
    refine r_iast (pc := 158) K dX8_hang_158 h (fun h26 h => ?_)
    refine r_aload_n (pc := 159) K dX8_hang_159 rfl ?_
    refine r_getR (pc := 160) K dX8_hang_160 fk_RX8_55 h (fun r27 h => ?_)
    refine r_iload_n (pc := 163) K dX8_hang_163 rfl ?_
    refine r_iload (pc := 164) K dX8_hang_164 rfl ?_
    refine nn_k h (fun a28 hz hq28 => ?_)
    subst hz
    have h := hq28
    refine r_iast (pc := 166) K dX8_hang_166 h (fun h29 h => ?_)
    refine r_aload_n (pc := 167) K dX8_hang_167 rfl ?_
    refine r_iload_n (pc := 168) K dX8_hang_168 rfl ?_
    refine v_void (pc := 169) (st := []) (As := [.int x1]) (b := a0) (ci := 8) (q0 := (RX8, TX8, 29)) K E (fun _ e1 => M_X8_keep K.2.2.2.2.2.2.1 _ _ _ _ e1) h dX8_hang_169 ce_X8_keep cv_X8_keep lk_RX8_144 rfl rfl rfl rfl (by decide) rfl rfl (Nat.le_of_ble_eq_true rfl) rfl rfl (by decide) (by decide) (fun _ h30 h => ?_)
    refine r_aload_n (pc := 172) K dX8_hang_172 rfl ?_
    refine r_getR (pc := 173) K dX8_hang_173 fk_RX8_37 h (fun r31 h => ?_)
    refine r_iload_n (pc := 176) K dX8_hang_176 rfl ?_
    refine r_dup2 (pc := 177) K dX8_hang_177 rfl (va_rf_cat _) ?_
    refine nn_k h (fun a32 hz hq32 => ?_)
    subst hz
    have h := hq32
    refine r_iald (pc := 178) K dX8_hang_178 h (fun x33 h => ?_)
    refine r_aload_n (pc := 179) K dX8_hang_179 rfl ?_
    refine r_getR (pc := 180) K dX8_hang_180 fk_RX8_58 h (fun r34 h => ?_)
    refine r_iload_n (pc := 183) K dX8_hang_183 rfl ?_
    refine nn_k h (fun a35 hz hq35 => ?_)
    subst hz
    have h := hq35
    refine r_iald (pc := 184) K dX8_hang_184 h (fun x36 h => ?_)
    refine r_isub (pc := 185) K dX8_hang_185 ?_
    refine r_iast (pc := 186) K dX8_hang_186 h (fun h37 h => ?_)
    refine r_aload_n (pc := 187) K dX8_hang_187 rfl ?_
    refine r_getR (pc := 188) K dX8_hang_188 fk_RX8_58 h (fun r38 h => ?_)
    refine r_iload_n (pc := 191) K dX8_hang_191 rfl ?_
    refine nn_k h (fun a39 hz hq39 => ?_)
    subst hz
    have h := hq39
    refine r_iald (pc := 192) K dX8_hang_192 h (fun x40 h => ?_)
    exact r_ireturn (pc := 193) K hr dX8_hang_193 h (by decide) (by decide)
  · refine r_iconst (pc := 140) (v := 0) K dX8_hang_140 (by decide) ?_
    exact r_ireturn (pc := 141) K hr dX8_hang_141 h (by decide) (by decide)
set_option maxRecDepth 100000 in
set_option maxHeartbeats 4000000 in
theorem B_X8_hang_b74 (K : Cx strL D cA h0 p l s m args meth c cX8_hang RX8 8) (hr : meth.sig.returnType = (some .int)) (E : ∀ x ∈ c.exceptionTable.toList, False) {res : (Int32 ⊕ String) × hpT} : ∀ (n : Nat) (a0 : Nat) (x1 : Int32) (x2 : Int32) (x4 : Int32) (x5 : Int32) (x6 : Int32) (hp : hpT), F_X8_hang_b74  n a0 x1 x2 x4 x5 x6 hp = some res → G D cA h0 p l e rm_X8_hang s m args below meth c 8 (vx_MQ below (QI D cA h0 res) (XE D cA h0 res) args s 0 0 (Af h0)) 0 0 hp 74 [some (va_rf (some a0)), some (.int x1), some (.int x2), none, some (.int x4), some (.int x5), some (.int x6), none] [] := by
  intro n
  induction n with
  | zero => intro a0 x1 x2 x4 x5 x6 hp h; cases h
  | succ n ih =>
    intro a0 x1 x2 x4 x5 x6 hp h
    rw [F_X8_hang_b74] at h
    refine r_iload (pc := 74) K dX8_hang_74 rfl ?_
    refine r_aload_n (pc := 76) K dX8_hang_76 rfl ?_
    refine r_iload_n (pc := 77) K dX8_hang_77 rfl ?_
    refine v_int (pc := 78) (st := [.int x6]) (As := [.int x2]) (b := a0) (ci := 8) (q0 := (RX8, TX8, 29)) K E (fun _ e1 => M_X8_rowsOfLot K.2.2.2.2.2.2.1 _ _ _ _ e1) h dX8_hang_78 ce_X8_rowsOfLot cv_X8_rowsOfLot lk_RX8_124 rfl rfl rfl rfl (by decide) rfl rfl (Nat.le_of_ble_eq_true rfl) rfl rfl (by decide) (by decide) (fun x41 h41 h => ?_)
    refine r_icmp_ge (pc := 81) (tgt := 122) K dX8_hang_81 (by decide) h (fun h _ => ?_) (fun h _ => ?_)
    · refine r_aload_n (pc := 122) K dX8_hang_122 rfl ?_
      refine r_iload (pc := 123) K dX8_hang_123 rfl ?_
      refine r_iconst (pc := 125) (v := (-1)) K dX8_hang_125 (by decide) ?_
      refine r_icmp_ne (pc := 126) (tgt := 133) K dX8_hang_126 (by decide) h (fun h _ => ?_) (fun h _ => ?_)
      · refine r_iconst (pc := 133) (v := 0) K dX8_hang_133 (by decide) ?_
        exact r_weak (lv2 := [some (va_rf (some a0)), some (.int x1), some (.int x2), none, some (.int x4), none, none, none]) ⟨rfl, rfl, rfl, rfl, trivial⟩ ((B_X8_hang_b134 K hr E  _ _ _ _ _ _ _ h))
      · refine r_iconst (pc := 129) (v := 2) K dX8_hang_129 (by decide) ?_
        refine r_goto (pc := 130) (tgt := 134) K dX8_hang_130 (by decide) ?_
        exact r_weak (lv2 := [some (va_rf (some a0)), some (.int x1), some (.int x2), none, some (.int x4), none, none, none]) ⟨rfl, rfl, rfl, rfl, trivial⟩ ((B_X8_hang_b134 K hr E  _ _ _ _ _ _ _ h))
    · refine r_aload_n (pc := 84) K dX8_hang_84 rfl ?_
      refine r_iload_n (pc := 85) K dX8_hang_85 rfl ?_
      refine r_iload_n (pc := 86) K dX8_hang_86 rfl ?_
      refine r_iload (pc := 87) K dX8_hang_87 rfl ?_
      refine r_iconst (pc := 89) (v := 0) K dX8_hang_89 (by decide) ?_
      refine v_int (pc := 90) (st := []) (As := [.int x1, .int x2, .int x6, .int 0]) (b := a0) (ci := 8) (q0 := (RX8, TX8, 29)) K E (fun _ e1 => M_X8_cutAll K.2.2.2.2.2.2.1 _ _ _ _ _ _ _ e1) h dX8_hang_90 ce_X8_cutAll cv_X8_cutAll lk_RX8_140 rfl rfl rfl rfl (by decide) rfl rfl (Nat.le_of_ble_eq_true rfl) rfl rfl (by decide) (by decide) (fun x42 h42 h => ?_)
      refine r_istore (pc := 93) (lv' := [some (va_rf (some a0)), some (.int x1), some (.int x2), none, some (.int x4), some (.int x5), some (.int x6), some (.int x42)]) K dX8_hang_93 (by decide) rfl ?_
      refine r_iload (pc := 95) K dX8_hang_95 rfl ?_
      refine r_iconst (pc := 97) (v := (-1)) K dX8_hang_97 (by decide) ?_
      refine r_icmp_eq (pc := 98) (tgt := 116) K dX8_hang_98 (by decide) h (fun h _ => ?_) (fun h _ => ?_)
      · exact r_weak (lv2 := [some (va_rf (some a0)), some (.int x1), some (.int x2), none, some (.int x4), some (.int x5), some (.int x6), none]) ⟨rfl, rfl, rfl, rfl, rfl, rfl, trivial⟩ ((B_X8_hang_b116 K hr E ih  _ _ _ _ _ _ _ h))
      · refine r_iload (pc := 101) K dX8_hang_101 rfl ?_
        refine r_iload (pc := 103) K dX8_hang_103 rfl ?_
        refine r_icmp_ge (pc := 105) (tgt := 116) K dX8_hang_105 (by decide) h (fun h _ => ?_) (fun h _ => ?_)
        · exact r_weak (lv2 := [some (va_rf (some a0)), some (.int x1), some (.int x2), none, some (.int x4), some (.int x5), some (.int x6), none]) ⟨rfl, rfl, rfl, rfl, rfl, rfl, trivial⟩ ((B_X8_hang_b116 K hr E ih  _ _ _ _ _ _ _ h))
        · refine r_iload (pc := 108) K dX8_hang_108 rfl ?_
          refine r_istore (pc := 110) (lv' := [some (va_rf (some a0)), some (.int x1), some (.int x2), none, some (.int x6), some (.int x5), some (.int x6), some (.int x42)]) K dX8_hang_110 (by decide) rfl ?_
          refine r_iload (pc := 112) K dX8_hang_112 rfl ?_
          refine r_istore (pc := 114) (lv' := [some (va_rf (some a0)), some (.int x1), some (.int x2), none, some (.int x6), some (.int x42), some (.int x6), some (.int x42)]) K dX8_hang_114 (by decide) rfl ?_
          exact r_weak (lv2 := [some (va_rf (some a0)), some (.int x1), some (.int x2), none, some (.int x6), some (.int x42), some (.int x6), none]) ⟨rfl, rfl, rfl, rfl, rfl, rfl, trivial⟩ ((B_X8_hang_b116 K hr E ih  _ _ _ _ _ _ _ h))
set_option maxRecDepth 100000 in
set_option maxHeartbeats 4000000 in
theorem B_X8_hang_b26 (K : Cx strL D cA h0 p l s m args meth c cX8_hang RX8 8) (hr : meth.sig.returnType = (some .int)) (E : ∀ x ∈ c.exceptionTable.toList, False) {res : (Int32 ⊕ String) × hpT} : ∀ (a0 : Nat) (x1 : Int32) (x2 : Int32) (xs0 : Int32) (hp : hpT), F_X8_hang_b26  a0 x1 x2 xs0 hp = some res → G D cA h0 p l e rm_X8_hang s m args below meth c 8 (vx_MQ below (QI D cA h0 res) (XE D cA h0 res) args s 0 0 (Af h0)) 0 0 hp 26 [some (va_rf (some a0)), some (.int x1), some (.int x2), none, none, none, none, none] [.int xs0] := by
  intro a0 x1 x2 xs0 hp h
  unfold F_X8_hang_b26 at h
  refine r_istore_n (pc := 26) (lv' := [some (va_rf (some a0)), some (.int x1), some (.int x2), some (.int xs0), none, none, none, none]) K dX8_hang_26 (by decide) rfl ?_
  refine r_iload_n (pc := 27) K dX8_hang_27 rfl ?_
  refine r_if_eq (pc := 28) (tgt := 48) K dX8_hang_28 (by decide) h (fun h _ => ?_) (fun h _ => ?_)
  · exact r_weak (lv2 := [some (va_rf (some a0)), none, none, some (.int xs0), none, none, none, none]) ⟨rfl, rfl, trivial⟩ ((B_X8_hang_b48 K hr E  _ _ _ h))
  · refine r_aload_n (pc := 31) K dX8_hang_31 rfl ?_
    refine r_iload_n (pc := 32) K dX8_hang_32 rfl ?_
    refine v_int (pc := 33) (st := []) (As := [.int x1]) (b := a0) (ci := 8) (q0 := (RX8, TX8, 29)) K E (fun _ e1 => M_X8_isHung K.2.2.2.2.2.2.1 _ _ _ _ e1) h dX8_hang_33 ce_X8_isHung cv_X8_isHung lk_RX8_121 rfl rfl rfl rfl (by decide) rfl rfl (Nat.le_of_ble_eq_true rfl) rfl rfl (by decide) (by decide) (fun x43 h43 h => ?_)
    refine r_if_ne (pc := 36) (tgt := 48) K dX8_hang_36 (by decide) h (fun h _ => ?_) (fun h _ => ?_)
    · exact r_weak (lv2 := [some (va_rf (some a0)), none, none, some (.int xs0), none, none, none, none]) ⟨rfl, rfl, trivial⟩ ((B_X8_hang_b48 K hr E  _ _ _ h))
    · refine r_aload_n (pc := 39) K dX8_hang_39 rfl ?_
      refine r_getR (pc := 40) K dX8_hang_40 fk_RX8_43 h (fun r44 h => ?_)
      refine r_iload_n (pc := 43) K dX8_hang_43 rfl ?_
      refine nn_k h (fun a45 hz hq45 => ?_)
      subst hz
      have h := hq45
      refine r_iald (pc := 44) K dX8_hang_44 h (fun x46 h => ?_)
      refine r_if_ne (pc := 45) (tgt := 64) K dX8_hang_45 (by decide) h (fun h _ => ?_) (fun h _ => ?_)
      · refine r_iconst (pc := 64) (v := (-1)) K dX8_hang_64 (by decide) ?_
        refine r_istore (pc := 65) (lv' := [some (va_rf (some a0)), some (.int x1), some (.int x2), some (.int xs0), some (.int (-1)), none, none, none]) K dX8_hang_65 (by decide) rfl ?_
        refine r_bipush (pc := 67) (v := 21) K dX8_hang_67 (by decide) ?_
        refine r_istore (pc := 69) (lv' := [some (va_rf (some a0)), some (.int x1), some (.int x2), some (.int xs0), some (.int (-1)), some (.int 21), none, none]) K dX8_hang_69 (by decide) rfl ?_
        refine r_iconst (pc := 71) (v := 0) K dX8_hang_71 (by decide) ?_
        refine r_istore (pc := 72) (lv' := [some (va_rf (some a0)), some (.int x1), some (.int x2), some (.int xs0), some (.int (-1)), some (.int 21), some (.int 0), none]) K dX8_hang_72 (by decide) rfl ?_
        exact r_weak (lv2 := [some (va_rf (some a0)), some (.int x1), some (.int x2), none, some (.int (-1)), some (.int 21), some (.int 0), none]) ⟨rfl, rfl, rfl, rfl, rfl, rfl, trivial⟩ ((B_X8_hang_b74 K hr E 1000 _ _ _ _ _ _ _ h))
      · exact r_weak (lv2 := [some (va_rf (some a0)), none, none, some (.int xs0), none, none, none, none]) ⟨rfl, rfl, trivial⟩ ((B_X8_hang_b48 K hr E  _ _ _ h))
set_option maxRecDepth 100000 in
set_option maxHeartbeats 4000000 in
theorem B_X8_hang_b25 (K : Cx strL D cA h0 p l s m args meth c cX8_hang RX8 8) (hr : meth.sig.returnType = (some .int)) (E : ∀ x ∈ c.exceptionTable.toList, False) {res : (Int32 ⊕ String) × hpT} : ∀ (a0 : Nat) (x1 : Int32) (x2 : Int32) (hp : hpT), F_X8_hang_b25  a0 x1 x2 hp = some res → G D cA h0 p l e rm_X8_hang s m args below meth c 8 (vx_MQ below (QI D cA h0 res) (XE D cA h0 res) args s 0 0 (Af h0)) 0 0 hp 25 [some (va_rf (some a0)), some (.int x1), some (.int x2), none, none, none, none, none] [] := by
  intro a0 x1 x2 hp h
  unfold F_X8_hang_b25 at h
  refine r_iconst (pc := 25) (v := 0) K dX8_hang_25 (by decide) ?_
  exact r_weak (lv2 := [some (va_rf (some a0)), some (.int x1), some (.int x2), none, none, none, none, none]) ⟨rfl, rfl, rfl, trivial⟩ ((B_X8_hang_b26 K hr E  _ _ _ _ _ h))
set_option maxRecDepth 100000 in
set_option maxHeartbeats 4000000 in
theorem M_X8_hang {D : va_G} {cA : Nat → ClassId} {h0 : Nat} {l : Launch} (hl : l.stackTraces = false) (a0 : Nat) (x1 : Int32) (x2 : Int32) (hp : hpT) (res : (Int32 ⊕ String) × hpT) (h : F_X8_hang a0 x1 x2 hp = some res) : vx_Met l yX8_hang (wsm yX8_hang cX8_hang 8 (some .int)) rm_X8_hang (va_Pc [va_rf (some a0), .int x1, .int x2] (Pre strL D cA h0 hp)) (QI D cA h0 res) (XE D cA h0 res) 0 0 (Af h0) := by
  unfold F_X8_hang at h
  refine g_entry (by decide +kernel) hl (cat_c rfl (cat_c rfl (cat_c rfl (cat_n)))) (Nat.le_of_ble_eq_true rfl) (lv := [some (va_rf (some a0)), some (.int x1), some (.int x2), none, none, none, none, none]) rfl ?_
  intro p e s m args below meth c K hr E hn
  have K : Cx strL D cA h0 p l s m args meth c cX8_hang RX8 8 := K
  refine r_iload_n (pc := 0) K dX8_hang_0 rfl ?_
  refine s_int (pc := 1) (st := []) (As := [.int x1]) K E (fun _ e1 => M_X8_isRoom K.2.2.2.2.2.2.1 _ _ _ e1) h dX8_hang_1 ce_X8_isRoom cs_X8_isRoom lk_RX8_118 rfl rfl (by decide) rfl rfl (Nat.le_of_ble_eq_true rfl) rfl rfl (by decide) (by decide) (fun x47 h47 h => ?_)
  refine r_if_eq (pc := 4) (tgt := 25) K dX8_hang_4 (by decide) h (fun h _ => ?_) (fun h _ => ?_)
  · exact r_weak (lv2 := [some (va_rf (some a0)), some (.int x1), some (.int x2), none, none, none, none, none]) ⟨rfl, rfl, rfl, trivial⟩ ((B_X8_hang_b25 K hr E  _ _ _ _ h))
  · refine r_iload_n (pc := 7) K dX8_hang_7 rfl ?_
    refine r_iconst (pc := 8) (v := 0) K dX8_hang_8 (by decide) ?_
    refine r_aload_n (pc := 9) K dX8_hang_9 rfl ?_
    refine r_getI (pc := 10) K dX8_hang_10 fk_RX8_115 h (fun x48 h => ?_)
    refine r_iconst (pc := 13) (v := 1) K dX8_hang_13 (by decide) ?_
    refine r_isub (pc := 14) K dX8_hang_14 ?_
    refine s_int (pc := 15) (st := []) (As := [.int x2, .int 0, .int (x48 - 1)]) K E (fun _ e1 => M_X8_is K.2.2.2.2.2.2.1 _ _ _ _ _ e1) h dX8_hang_15 ce_X8_is cs_X8_is lk_RX8_80 rfl rfl (by decide) rfl rfl (Nat.le_of_ble_eq_true rfl) rfl rfl (by decide) (by decide) (fun x49 h49 h => ?_)
    refine r_if_eq (pc := 18) (tgt := 25) K dX8_hang_18 (by decide) h (fun h _ => ?_) (fun h _ => ?_)
    · exact r_weak (lv2 := [some (va_rf (some a0)), some (.int x1), some (.int x2), none, none, none, none, none]) ⟨rfl, rfl, rfl, trivial⟩ ((B_X8_hang_b25 K hr E  _ _ _ _ h))
    · refine r_iconst (pc := 21) (v := 1) K dX8_hang_21 (by decide) ?_
      refine r_goto (pc := 22) (tgt := 26) K dX8_hang_22 (by decide) ?_
      exact r_weak (lv2 := [some (va_rf (some a0)), some (.int x1), some (.int x2), none, none, none, none, none]) ⟨rfl, rfl, rfl, trivial⟩ ((B_X8_hang_b26 K hr E  _ _ _ _ _ h))
def rm_X8_lose : Room := { frames := 0, cells := 0, slots := 0, locals := 0 }
set_option maxRecDepth 100000 in
set_option maxHeartbeats 4000000 in
theorem M_X8_lose {D : va_G} {cA : Nat → ClassId} {h0 : Nat} {l : Launch} (hl : l.stackTraces = false) (a0 : Nat) (x1 : Int32) (hp : hpT) (res : (Unit ⊕ String) × hpT) (h : F_X8_lose a0 x1 hp = some res) : vx_Met l yX8_lose (wsm yX8_lose cX8_lose 2 none) rm_X8_lose (va_Pc [va_rf (some a0), .int x1] (Pre strL D cA h0 hp)) (QV D cA h0 res) (XE D cA h0 res) 0 0 (Af h0) := by
  unfold F_X8_lose at h
  refine g_entry (by decide +kernel) hl (cat_c rfl (cat_c rfl (cat_n))) (Nat.le_of_ble_eq_true rfl) (lv := [some (va_rf (some a0)), some (.int x1)]) rfl ?_
  intro p e s m args below meth c K hr E hn
  have K : Cx strL D cA h0 p l s m args meth c cX8_lose RX8 2 := K
  refine r_aload_n (pc := 0) K dX8_lose_0 rfl ?_
  refine r_dup (pc := 1) K dX8_lose_1 rfl ?_
  refine r_getI (pc := 2) K dX8_lose_2 fk_RX8_148 h (fun x21 h => ?_)
  refine r_aload_n (pc := 5) K dX8_lose_5 rfl ?_
  refine r_getR (pc := 6) K dX8_lose_6 fk_RX8_58 h (fun r22 h => ?_)
  refine r_iload_n (pc := 9) K dX8_lose_9 rfl ?_
  refine nn_k h (fun a23 hz hq23 => ?_)
  subst hz
  have h := hq23
  refine r_iald (pc := 10) K dX8_lose_10 h (fun x24 h => ?_)
  refine r_aload_n (pc := 11) K dX8_lose_11 rfl ?_
  refine r_getR (pc := 12) K dX8_lose_12 fk_RX8_40 h (fun r25 h => ?_)
  refine r_aload_n (pc := 15) K dX8_lose_15 rfl ?_
  refine r_getR (pc := 16) K dX8_lose_16 fk_RX8_52 h (fun r26 h => ?_)
  refine r_iload_n (pc := 19) K dX8_lose_19 rfl ?_
  refine nn_k h (fun a27 hz hq27 => ?_)
  subst hz
  have h := hq27
  refine r_iald (pc := 20) K dX8_lose_20 h (fun x28 h => ?_)
  refine nn_k h (fun a29 hz hq29 => ?_)
  subst hz
  have h := hq29
  refine r_iald (pc := 21) K dX8_lose_21 h (fun x30 h => ?_)
  refine r_imul (pc := 22) K dX8_lose_22 ?_
  refine r_iadd (pc := 23) K dX8_lose_23 ?_
  refine r_put (pc := 24) K dX8_lose_24 fk_RX8_148 fn_8_28 rfl rfl h (fun h31 h => ?_)
  refine r_aload_n (pc := 27) K dX8_lose_27 rfl ?_
  refine r_getR (pc := 28) K dX8_lose_28 fk_RX8_52 h (fun r32 h => ?_)
  refine r_iload_n (pc := 31) K dX8_lose_31 rfl ?_
  refine r_iconst (pc := 32) (v := (-1)) K dX8_lose_32 (by decide) ?_
  refine nn_k h (fun a33 hz hq33 => ?_)
  subst hz
  have h := hq33
  refine r_iast (pc := 33) K dX8_lose_33 h (fun h34 h => ?_)
  exact r_vreturn (pc := 34) K hr dX8_lose_34 h (by decide) (by decide)
def rm_X8_isWall : Room := { frames := 2, cells := 0, slots := 0, locals := 42 }
set_option maxRecDepth 100000 in
set_option maxHeartbeats 4000000 in
theorem B_X8_isWall_b27 (K : Cx strL D cA h0 p l s m args meth c cX8_isWall RX8 3) (hr : meth.sig.returnType = (some .boolean)) (E : ∀ x ∈ c.exceptionTable.toList, False) {res : (Int32 ⊕ String) × hpT} : ∀ (hp : hpT), F_X8_isWall_b27   hp = some res → G D cA h0 p l e rm_X8_isWall s m args below meth c 3 (vx_MQ below (QI D cA h0 res) (XE D cA h0 res) args s 0 0 (Af h0)) 0 0 hp 27 [none, none, none] [] := by
  intro  hp h
  unfold F_X8_isWall_b27 at h
  refine r_iconst (pc := 27) (v := 0) K dX8_isWall_27 (by decide) ?_
  exact r_zreturn (pc := 28) K hr dX8_isWall_28 h (by decide) (by decide)
set_option maxRecDepth 100000 in
set_option maxHeartbeats 4000000 in
theorem M_X8_isWall {D : va_G} {cA : Nat → ClassId} {h0 : Nat} {l : Launch} (hl : l.stackTraces = false) (a0 : Nat) (x1 : Int32) (x2 : Int32) (hp : hpT) (res : (Int32 ⊕ String) × hpT) (h : F_X8_isWall a0 x1 x2 hp = some res) : vx_Met l yX8_isWall (wsm yX8_isWall cX8_isWall 3 (some .boolean)) rm_X8_isWall (va_Pc [va_rf (some a0), .int x1, .int x2] (Pre strL D cA h0 hp)) (QI D cA h0 res) (XE D cA h0 res) 0 0 (Af h0) := by
  unfold F_X8_isWall at h
  refine g_entry (by decide +kernel) hl (cat_c rfl (cat_c rfl (cat_c rfl (cat_n)))) (Nat.le_of_ble_eq_true rfl) (lv := [some (va_rf (some a0)), some (.int x1), some (.int x2)]) rfl ?_
  intro p e s m args below meth c K hr E hn
  have K : Cx strL D cA h0 p l s m args meth c cX8_isWall RX8 3 := K
  refine r_iload_n (pc := 0) K dX8_isWall_0 rfl ?_
  refine s_int (pc := 1) (st := []) (As := [.int x1]) K E (fun _ e1 => M_X8_isRoom K.2.2.2.2.2.2.1 _ _ _ e1) h dX8_isWall_1 ce_X8_isRoom cs_X8_isRoom lk_RX8_118 rfl rfl (by decide) rfl rfl (Nat.le_of_ble_eq_true rfl) rfl rfl (by decide) (by decide) (fun x21 h21 h => ?_)
  refine r_if_eq (pc := 4) (tgt := 27) K dX8_isWall_4 (by decide) h (fun h _ => ?_) (fun h _ => ?_)
  · exact r_weak (lv2 := [none, none, none]) trivial ((B_X8_isWall_b27 K hr E   _ h))
  · refine r_iload_n (pc := 7) K dX8_isWall_7 rfl ?_
    refine r_iconst (pc := 8) (v := 0) K dX8_isWall_8 (by decide) ?_
    refine r_aload_n (pc := 9) K dX8_isWall_9 rfl ?_
    refine r_getR (pc := 10) K dX8_isWall_10 fk_RX8_43 h (fun r22 h => ?_)
    refine r_iload_n (pc := 13) K dX8_isWall_13 rfl ?_
    refine nn_k h (fun a23 hz hq23 => ?_)
    subst hz
    have h := hq23
    refine r_iald (pc := 14) K dX8_isWall_14 h (fun x24 h => ?_)
    refine r_iconst (pc := 15) (v := 1) K dX8_isWall_15 (by decide) ?_
    refine r_isub (pc := 16) K dX8_isWall_16 ?_
    refine s_int (pc := 17) (st := []) (As := [.int x2, .int 0, .int (x24 - 1)]) K E (fun _ e1 => M_X8_is K.2.2.2.2.2.2.1 _ _ _ _ _ e1) h dX8_isWall_17 ce_X8_is cs_X8_is lk_RX8_80 rfl rfl (by decide) rfl rfl (Nat.le_of_ble_eq_true rfl) rfl rfl (by decide) (by decide) (fun x25 h25 h => ?_)
    refine r_if_eq (pc := 20) (tgt := 27) K dX8_isWall_20 (by decide) h (fun h _ => ?_) (fun h _ => ?_)
    · exact r_weak (lv2 := [none, none, none]) trivial ((B_X8_isWall_b27 K hr E   _ h))
    · refine r_iconst (pc := 23) (v := 1) K dX8_isWall_23 (by decide) ?_
      refine r_goto (pc := 24) (tgt := 28) K dX8_isWall_24 (by decide) ?_
      exact r_zreturn (pc := 28) K hr dX8_isWall_28 h (by decide) (by decide)
def rm_X8_lengthen : Room := { frames := 3, cells := 0, slots := 0, locals := 70 }
set_option maxRecDepth 100000 in
set_option maxHeartbeats 4000000 in
theorem B_X8_lengthen_b259 (K : Cx strL D cA h0 p l s m args meth c cX8_lengthen RX8 11) (hr : meth.sig.returnType = (some .int)) (E : ∀ x ∈ c.exceptionTable.toList, False) {res : (Int32 ⊕ String) × hpT} : ∀ (a0 : Nat) (x1 : Int32) (x3 : Int32) (x5 : Int32) (x7 : Int32) (x8 : Int32) (x9 : Int32) (hp : hpT), F_X8_lengthen_b259  a0 x1 x3 x5 x7 x8 x9 hp = some res → G D cA h0 p l e rm_X8_lengthen s m args below meth c 11 (vx_MQ below (QI D cA h0 res) (XE D cA h0 res) args s 0 0 (Af h0)) 0 0 hp 259 [some (va_rf (some a0)), some (.int x1), none, some (.int x3), none, some (.int x5), none, some (.int x7), some (.int x8), some (.int x9), none] [] := by
  intro a0 x1 x3 x5 x7 x8 x9 hp h
  unfold F_X8_lengthen_b259 at h
  refine r_aload_n (pc := 259) K dX8_lengthen_259 rfl ?_
  refine r_getR (pc := 260) K dX8_lengthen_260 fk_RX8_46 h (fun r21 h => ?_)
  refine r_iload (pc := 263) K dX8_lengthen_263 rfl ?_
  refine r_dup2 (pc := 265) K dX8_lengthen_265 rfl (va_rf_cat _) ?_
  refine nn_k h (fun a22 hz hq22 => ?_)
  subst hz
  have h := hq22
  refine r_iald (pc := 266) K dX8_lengthen_266 h (fun x23 h => ?_)
  refine r_iload_n (pc := 267) K dX8_lengthen_267 rfl ?_
  refine r_iadd (pc := 268) K dX8_lengthen_268 ?_
  refine r_iast (pc := 269) K dX8_lengthen_269 h (fun h24 h => ?_)
  refine r_iload (pc := 270) K dX8_lengthen_270 rfl ?_
  refine r_if_ne (pc := 272) (tgt := 282) K dX8_lengthen_272 (by decide) h (fun h _ => ?_) (fun h _ => ?_)
  · refine r_aload_n (pc := 282) K dX8_lengthen_282 rfl ?_
    refine r_iload_n (pc := 283) K dX8_lengthen_283 rfl ?_
    refine v_void (pc := 284) (st := []) (As := [.int x1]) (b := a0) (ci := 8) (q0 := (RX8, TX8, 29)) K E (fun _ e1 => M_X8_keep K.2.2.2.2.2.2.1 _ _ _ _ e1) h dX8_lengthen_284 ce_X8_keep cv_X8_keep lk_RX8_144 rfl rfl rfl rfl (by decide) rfl rfl (Nat.le_of_ble_eq_true rfl) rfl rfl (by decide) (by decide) (fun _ h25 h => ?_)
    refine r_aload_n (pc := 287) K dX8_lengthen_287 rfl ?_
    refine r_getR (pc := 288) K dX8_lengthen_288 fk_RX8_37 h (fun r26 h => ?_)
    refine r_iload (pc := 291) K dX8_lengthen_291 rfl ?_
    refine r_dup2 (pc := 293) K dX8_lengthen_293 rfl (va_rf_cat _) ?_
    refine nn_k h (fun a27 hz hq27 => ?_)
    subst hz
    have h := hq27
    refine r_iald (pc := 294) K dX8_lengthen_294 h (fun x28 h => ?_)
    refine r_aload_n (pc := 295) K dX8_lengthen_295 rfl ?_
    refine r_getR (pc := 296) K dX8_lengthen_296 fk_RX8_58 h (fun r29 h => ?_)
    refine r_iload_n (pc := 299) K dX8_lengthen_299 rfl ?_
    refine nn_k h (fun a30 hz hq30 => ?_)
    subst hz
    have h := hq30
    refine r_iald (pc := 300) K dX8_lengthen_300 h (fun x31 h => ?_)
    refine r_iload (pc := 301) K dX8_lengthen_301 rfl ?_
    refine r_isub (pc := 303) K dX8_lengthen_303 ?_
    refine r_isub (pc := 304) K dX8_lengthen_304 ?_
    refine r_iast (pc := 305) K dX8_lengthen_305 h (fun h32 h => ?_)
    refine r_aload_n (pc := 306) K dX8_lengthen_306 rfl ?_
    refine r_getR (pc := 307) K dX8_lengthen_307 fk_RX8_58 h (fun r33 h => ?_)
    refine r_iload_n (pc := 310) K dX8_lengthen_310 rfl ?_
    refine nn_k h (fun a34 hz hq34 => ?_)
    subst hz
    have h := hq34
    refine r_iald (pc := 311) K dX8_lengthen_311 h (fun x35 h => ?_)
    refine r_iload (pc := 312) K dX8_lengthen_312 rfl ?_
    refine r_isub (pc := 314) K dX8_lengthen_314 ?_
    exact r_ireturn (pc := 315) K hr dX8_lengthen_315 h (by decide) (by decide)
  · refine r_aload_n (pc := 275) K dX8_lengthen_275 rfl ?_
    refine r_iload_n (pc := 276) K dX8_lengthen_276 rfl ?_
    refine v_void (pc := 277) (st := []) (As := [.int x1]) (b := a0) (ci := 8) (q0 := (RX8, TX8, 29)) K E (fun _ e1 => M_X8_lose K.2.2.2.2.2.2.1 _ _ _ _ e1) h dX8_lengthen_277 ce_X8_lose cv_X8_lose lk_RX8_155 rfl rfl rfl rfl (by decide) rfl rfl (Nat.le_of_ble_eq_true rfl) rfl rfl (by decide) (by decide) (fun _ h36 h => ?_)
    refine r_iconst (pc := 280) (v := (-1)) K dX8_lengthen_280 (by decide) ?_
    exact r_ireturn (pc := 281) K hr dX8_lengthen_281 h (by decide) (by decide)
set_option maxRecDepth 100000 in
set_option maxHeartbeats 4000000 in
theorem B_X8_lengthen_b169 (K : Cx strL D cA h0 p l s m args meth c cX8_lengthen RX8 11) (hr : meth.sig.returnType = (some .int)) (E : ∀ x ∈ c.exceptionTable.toList, False) {res : (Int32 ⊕ String) × hpT} : ∀ (n : Nat) (a0 : Nat) (x1 : Int32) (x3 : Int32) (x5 : Int32) (x7 : Int32) (x8 : Int32) (x9 : Int32) (x10 : Int32) (hp : hpT), F_X8_lengthen_b169  n a0 x1 x3 x5 x7 x8 x9 x10 hp = some res → G D cA h0 p l e rm_X8_lengthen s m args below meth c 11 (vx_MQ below (QI D cA h0 res) (XE D cA h0 res) args s 0 0 (Af h0)) 0 0 hp 169 [some (va_rf (some a0)), some (.int x1), none, some (.int x3), none, some (.int x5), none, some (.int x7), some (.int x8), some (.int x9), some (.int x10)] [] := by
  intro n
  induction n with
  | zero => intro a0 x1 x3 x5 x7 x8 x9 x10 hp h; cases h
  | succ n ih =>
    intro a0 x1 x3 x5 x7 x8 x9 x10 hp h
    rw [F_X8_lengthen_b169] at h
    refine r_iload (pc := 169) K dX8_lengthen_169 rfl ?_
    refine r_aload_n (pc := 171) K dX8_lengthen_171 rfl ?_
    refine r_getR (pc := 172) K dX8_lengthen_172 fk_RX8_46 h (fun r37 h => ?_)
    refine r_iload (pc := 175) K dX8_lengthen_175 rfl ?_
    refine nn_k h (fun a38 hz hq38 => ?_)
    subst hz
    have h := hq38
    refine r_iald (pc := 177) K dX8_lengthen_177 h (fun x39 h => ?_)
    refine r_iload_n (pc := 178) K dX8_lengthen_178 rfl ?_
    refine r_iadd (pc := 179) K dX8_lengthen_179 ?_
    refine r_icmp_ge (pc := 180) (tgt := 259) K dX8_lengthen_180 (by decide) h (fun h _ => ?_) (fun h _ => ?_)
    · exact r_weak (lv2 := [some (va_rf (some a0)), some (.int x1), none, some (.int x3), none, some (.int x5), none, some (.int x7), some (.int x8), some (.int x9), none]) ⟨rfl, rfl, rfl, rfl, rfl, rfl, rfl, trivial⟩ ((B_X8_lengthen_b259 K hr E  _ _ _ _ _ _ _ _ h))
    · refine r_iload (pc := 183) K dX8_lengthen_183 rfl ?_
      refine r_if_eq (pc := 185) (tgt := 259) K dX8_lengthen_185 (by decide) h (fun h _ => ?_) (fun h _ => ?_)
      · exact r_weak (lv2 := [some (va_rf (some a0)), some (.int x1), none, some (.int x3), none, some (.int x5), none, some (.int x7), some (.int x8), some (.int x9), none]) ⟨rfl, rfl, rfl, rfl, rfl, rfl, rfl, trivial⟩ ((B_X8_lengthen_b259 K hr E  _ _ _ _ _ _ _ _ h))
      · refine r_aload_n (pc := 188) K dX8_lengthen_188 rfl ?_
        refine r_iload (pc := 189) K dX8_lengthen_189 rfl ?_
        refine r_aload_n (pc := 191) K dX8_lengthen_191 rfl ?_
        refine r_getR (pc := 192) K dX8_lengthen_192 fk_RX8_55 h (fun r40 h => ?_)
        refine r_iload_n (pc := 195) K dX8_lengthen_195 rfl ?_
        refine nn_k h (fun a41 hz hq41 => ?_)
        subst hz
        have h := hq41
        refine r_iald (pc := 196) K dX8_lengthen_196 h (fun x42 h => ?_)
        refine r_iload (pc := 197) K dX8_lengthen_197 rfl ?_
        refine r_aload_n (pc := 199) K dX8_lengthen_199 rfl ?_
        refine r_getR (pc := 200) K dX8_lengthen_200 fk_RX8_37 h (fun r43 h => ?_)
        refine r_iload (pc := 203) K dX8_lengthen_203 rfl ?_
        refine nn_k h (fun a44 hz hq44 => ?_)
        subst hz
        have h := hq44
        refine r_iald (pc := 205) K dX8_lengthen_205 h (fun x45 h => ?_)
        refine r_iadd (pc := 206) K dX8_lengthen_206 ?_
        refine r_aload_n (pc := 207) K dX8_lengthen_207 rfl ?_
        refine r_getR (pc := 208) K dX8_lengthen_208 fk_RX8_49 h (fun r46 h => ?_)
        refine r_iload (pc := 211) K dX8_lengthen_211 rfl ?_
        refine nn_k h (fun a47 hz hq47 => ?_)
        subst hz
        have h := hq47
        refine r_iald (pc := 213) K dX8_lengthen_213 h (fun x48 h => ?_)
        refine v_int (pc := 214) (st := []) (As := [.int x7, .int x42, .int (x8 + x45), .int x48]) (b := a0) (ci := 8) (q0 := (RX8, TX8, 29)) K E (fun _ e1 => M_X8_give K.2.2.2.2.2.2.1 _ _ _ _ _ _ _ e1) h dX8_lengthen_214 ce_X8_give cv_X8_give lk_RX8_136 rfl rfl rfl rfl (by decide) rfl rfl (Nat.le_of_ble_eq_true rfl) rfl rfl (by decide) (by decide) (fun x49 h49 h => ?_)
        refine r_istore (pc := 217) (lv' := [some (va_rf (some a0)), some (.int x1), none, some (.int x3), none, some (.int x5), none, some (.int x7), some (.int x8), some (.int x49), some (.int x10)]) K dX8_lengthen_217 (by decide) rfl ?_
        refine r_aload_n (pc := 219) K dX8_lengthen_219 rfl ?_
        refine r_getR (pc := 220) K dX8_lengthen_220 fk_RX8_67 h (fun r50 h => ?_)
        refine r_bipush (pc := 223) (v := 24) K dX8_lengthen_223 (by decide) ?_
        refine r_iload (pc := 225) K dX8_lengthen_225 rfl ?_
        refine r_imul (pc := 227) K dX8_lengthen_227 ?_
        refine r_iload (pc := 228) K dX8_lengthen_228 rfl ?_
        refine r_iadd (pc := 230) K dX8_lengthen_230 ?_
        refine r_aload_n (pc := 231) K dX8_lengthen_231 rfl ?_
        refine r_getI (pc := 232) K dX8_lengthen_232 fk_RX8_130 h (fun x51 h => ?_)
        refine nn_k h (fun a52 hz hq52 => ?_)
        subst hz
        have h := hq52
        refine r_iast (pc := 235) K dX8_lengthen_235 h (fun h53 h => ?_)
        refine r_aload_n (pc := 236) K dX8_lengthen_236 rfl ?_
        refine r_getR (pc := 237) K dX8_lengthen_237 fk_RX8_70 h (fun r54 h => ?_)
        refine r_bipush (pc := 240) (v := 24) K dX8_lengthen_240 (by decide) ?_
        refine r_iload (pc := 242) K dX8_lengthen_242 rfl ?_
        refine r_imul (pc := 244) K dX8_lengthen_244 ?_
        refine r_iload (pc := 245) K dX8_lengthen_245 rfl ?_
        refine r_iadd (pc := 247) K dX8_lengthen_247 ?_
        refine r_aload_n (pc := 248) K dX8_lengthen_248 rfl ?_
        refine r_getI (pc := 249) K dX8_lengthen_249 fk_RX8_133 h (fun x55 h => ?_)
        refine nn_k h (fun a56 hz hq56 => ?_)
        subst hz
        have h := hq56
        refine r_iast (pc := 252) K dX8_lengthen_252 h (fun h57 h => ?_)
        refine r_iinc (pc := 253) (v := (x10 + 1)) (lv' := [some (va_rf (some a0)), some (.int x1), none, some (.int x3), none, some (.int x5), none, some (.int x7), some (.int x8), some (.int x49), some (.int (x10 + 1))]) K dX8_lengthen_253 rfl rfl (by decide) rfl ?_
        refine r_goto (pc := 256) (tgt := 169) K dX8_lengthen_256 (by decide) ?_
        exact r_weak (lv2 := [some (va_rf (some a0)), some (.int x1), none, some (.int x3), none, some (.int x5), none, some (.int x7), some (.int x8), some (.int x49), some (.int (x10 + 1))]) ⟨rfl, rfl, rfl, rfl, rfl, rfl, rfl, rfl, trivial⟩ ((ih _ _ _ _ _ _ _ _ _ h))
set_option maxRecDepth 100000 in
set_option maxHeartbeats 4000000 in
theorem B_X8_lengthen_b125 (K : Cx strL D cA h0 p l s m args meth c cX8_lengthen RX8 11) (hr : meth.sig.returnType = (some .int)) (E : ∀ x ∈ c.exceptionTable.toList, False) {res : (Int32 ⊕ String) × hpT} : ∀ (n : Nat) (a0 : Nat) (x1 : Int32) (x3 : Int32) (x5 : Int32) (x7 : Int32) (x8 : Int32) (x9 : Int32) (hp : hpT), F_X8_lengthen_b125  n a0 x1 x3 x5 x7 x8 x9 hp = some res → G D cA h0 p l e rm_X8_lengthen s m args below meth c 11 (vx_MQ below (QI D cA h0 res) (XE D cA h0 res) args s 0 0 (Af h0)) 0 0 hp 125 [some (va_rf (some a0)), some (.int x1), none, some (.int x3), none, some (.int x5), none, some (.int x7), some (.int x8), some (.int x9), none] [] := by
  intro n
  induction n with
  | zero => intro a0 x1 x3 x5 x7 x8 x9 hp h; cases h
  | succ n ih =>
    intro a0 x1 x3 x5 x7 x8 x9 hp h
    rw [F_X8_lengthen_b125] at h
    refine r_iload (pc := 125) K dX8_lengthen_125 rfl ?_
    refine r_iload (pc := 127) K dX8_lengthen_127 rfl ?_
    refine r_icmp_ge (pc := 129) (tgt := 157) K dX8_lengthen_129 (by decide) h (fun h _ => ?_) (fun h _ => ?_)
    · refine r_iconst (pc := 157) (v := 1) K dX8_lengthen_157 (by decide) ?_
      refine r_istore (pc := 158) (lv' := [some (va_rf (some a0)), some (.int x1), none, some (.int x3), none, some (.int x5), none, some (.int x7), some (.int x8), some (.int 1), none]) K dX8_lengthen_158 (by decide) rfl ?_
      refine r_aload_n (pc := 160) K dX8_lengthen_160 rfl ?_
      refine r_getR (pc := 161) K dX8_lengthen_161 fk_RX8_46 h (fun r58 h => ?_)
      refine r_iload (pc := 164) K dX8_lengthen_164 rfl ?_
      refine nn_k h (fun a59 hz hq59 => ?_)
      subst hz
      have h := hq59
      refine r_iald (pc := 166) K dX8_lengthen_166 h (fun x60 h => ?_)
      refine r_istore (pc := 167) (lv' := [some (va_rf (some a0)), some (.int x1), none, some (.int x3), none, some (.int x5), none, some (.int x7), some (.int x8), some (.int 1), some (.int x60)]) K dX8_lengthen_167 (by decide) rfl ?_
      exact r_weak (lv2 := [some (va_rf (some a0)), some (.int x1), none, some (.int x3), none, some (.int x5), none, some (.int x7), some (.int x8), some (.int 1), some (.int x60)]) ⟨rfl, rfl, rfl, rfl, rfl, rfl, rfl, rfl, trivial⟩ ((B_X8_lengthen_b169 K hr E 1000 _ _ _ _ _ _ _ _ _ h))
    · refine r_aload_n (pc := 132) K dX8_lengthen_132 rfl ?_
      refine r_getR (pc := 133) K dX8_lengthen_133 fk_RX8_64 h (fun r61 h => ?_)
      refine r_iload (pc := 136) K dX8_lengthen_136 rfl ?_
      refine r_aload_n (pc := 138) K dX8_lengthen_138 rfl ?_
      refine r_getR (pc := 139) K dX8_lengthen_139 fk_RX8_61 h (fun r62 h => ?_)
      refine r_bipush (pc := 142) (v := 20) K dX8_lengthen_142 (by decide) ?_
      refine r_iload_n (pc := 144) K dX8_lengthen_144 rfl ?_
      refine r_imul (pc := 145) K dX8_lengthen_145 ?_
      refine r_iload (pc := 146) K dX8_lengthen_146 rfl ?_
      refine r_iadd (pc := 148) K dX8_lengthen_148 ?_
      refine nn_k h (fun a63 hz hq63 => ?_)
      subst hz
      have h := hq63
      refine r_iald (pc := 149) K dX8_lengthen_149 h (fun x64 h => ?_)
      refine nn_k h (fun a65 hz hq65 => ?_)
      subst hz
      have h := hq65
      refine r_iast (pc := 150) K dX8_lengthen_150 h (fun h66 h => ?_)
      refine r_iinc (pc := 151) (v := (x9 + 1)) (lv' := [some (va_rf (some a0)), some (.int x1), none, some (.int x3), none, some (.int x5), none, some (.int x7), some (.int x8), some (.int (x9 + 1)), none]) K dX8_lengthen_151 rfl rfl (by decide) rfl ?_
      refine r_goto (pc := 154) (tgt := 125) K dX8_lengthen_154 (by decide) ?_
      exact r_weak (lv2 := [some (va_rf (some a0)), some (.int x1), none, some (.int x3), none, some (.int x5), none, some (.int x7), some (.int x8), some (.int (x9 + 1)), none]) ⟨rfl, rfl, rfl, rfl, rfl, rfl, rfl, trivial⟩ ((ih _ _ _ _ _ _ _ _ h))
set_option maxRecDepth 100000 in
set_option maxHeartbeats 4000000 in
theorem B_X8_lengthen_b92 (K : Cx strL D cA h0 p l s m args meth c cX8_lengthen RX8 11) (hr : meth.sig.returnType = (some .int)) (E : ∀ x ∈ c.exceptionTable.toList, False) {res : (Int32 ⊕ String) × hpT} : ∀ (a0 : Nat) (x1 : Int32) (x3 : Int32) (x5 : Int32) (xs0 : Int32) (as1 : Nat) (hp : hpT), F_X8_lengthen_b92  a0 x1 x3 x5 xs0 as1 hp = some res → G D cA h0 p l e rm_X8_lengthen s m args below meth c 11 (vx_MQ below (QI D cA h0 res) (XE D cA h0 res) args s 0 0 (Af h0)) 0 0 hp 92 [some (va_rf (some a0)), some (.int x1), none, some (.int x3), none, some (.int x5), none, none, none, none, none] [.int xs0, va_rf (some as1)] := by
  intro a0 x1 x3 x5 xs0 as1 hp h
  unfold F_X8_lengthen_b92 at h
  refine v_int (pc := 92) (st := []) (As := [.int xs0]) (b := as1) (ci := 8) (q0 := (RX8, TX8, 29)) K E (fun _ e1 => M_X8_refused K.2.2.2.2.2.2.1 _ _ _ _ e1) h dX8_lengthen_92 ce_X8_refused cv_X8_refused lk_RX8_84 rfl rfl rfl rfl (by decide) rfl rfl (Nat.le_of_ble_eq_true rfl) rfl rfl (by decide) (by decide) (fun x67 h67 h => ?_)
  refine r_if_eq (pc := 95) (tgt := 100) K dX8_lengthen_95 (by decide) h (fun h _ => ?_) (fun h _ => ?_)
  · refine r_aload_n (pc := 100) K dX8_lengthen_100 rfl ?_
    refine r_getR (pc := 101) K dX8_lengthen_101 fk_RX8_52 h (fun r68 h => ?_)
    refine r_iload_n (pc := 104) K dX8_lengthen_104 rfl ?_
    refine nn_k h (fun a69 hz hq69 => ?_)
    subst hz
    have h := hq69
    refine r_iald (pc := 105) K dX8_lengthen_105 h (fun x70 h => ?_)
    refine r_istore (pc := 106) (lv' := [some (va_rf (some a0)), some (.int x1), none, some (.int x3), none, some (.int x5), none, some (.int x70), none, none, none]) K dX8_lengthen_106 (by decide) rfl ?_
    refine r_aload_n (pc := 108) K dX8_lengthen_108 rfl ?_
    refine r_getR (pc := 109) K dX8_lengthen_109 fk_RX8_58 h (fun r71 h => ?_)
    refine r_iload_n (pc := 112) K dX8_lengthen_112 rfl ?_
    refine nn_k h (fun a72 hz hq72 => ?_)
    subst hz
    have h := hq72
    refine r_iald (pc := 113) K dX8_lengthen_113 h (fun x73 h => ?_)
    refine r_istore (pc := 114) (lv' := [some (va_rf (some a0)), some (.int x1), none, some (.int x3), none, some (.int x5), none, some (.int x70), some (.int x73), none, none]) K dX8_lengthen_114 (by decide) rfl ?_
    refine r_aload_n (pc := 116) K dX8_lengthen_116 rfl ?_
    refine r_iload (pc := 117) K dX8_lengthen_117 rfl ?_
    refine r_put (pc := 119) K dX8_lengthen_119 fk_RX8_127 fn_8_23 rfl rfl h (fun h74 h => ?_)
    refine r_iconst (pc := 122) (v := 0) K dX8_lengthen_122 (by decide) ?_
    refine r_istore (pc := 123) (lv' := [some (va_rf (some a0)), some (.int x1), none, some (.int x3), none, some (.int x5), none, some (.int x70), some (.int x73), some (.int 0), none]) K dX8_lengthen_123 (by decide) rfl ?_
    exact r_weak (lv2 := [some (va_rf (some a0)), some (.int x1), none, some (.int x3), none, some (.int x5), none, some (.int x70), some (.int x73), some (.int 0), none]) ⟨rfl, rfl, rfl, rfl, rfl, rfl, rfl, trivial⟩ ((B_X8_lengthen_b125 K hr E 1000 _ _ _ _ _ _ _ _ h))
  · refine r_iconst (pc := 98) (v := 0) K dX8_lengthen_98 (by decide) ?_
    exact r_ireturn (pc := 99) K hr dX8_lengthen_99 h (by decide) (by decide)
set_option maxRecDepth 100000 in
set_option maxHeartbeats 4000000 in
theorem B_X8_lengthen_b56 (K : Cx strL D cA h0 p l s m args meth c cX8_lengthen RX8 11) (hr : meth.sig.returnType = (some .int)) (E : ∀ x ∈ c.exceptionTable.toList, False) {res : (Int32 ⊕ String) × hpT} : ∀ (a0 : Nat) (x1 : Int32) (x3 : Int32) (x4 : Int32) (x5 : Int32) (xs0 : Int32) (hp : hpT), F_X8_lengthen_b56  a0 x1 x3 x4 x5 xs0 hp = some res → G D cA h0 p l e rm_X8_lengthen s m args below meth c 11 (vx_MQ below (QI D cA h0 res) (XE D cA h0 res) args s 0 0 (Af h0)) 0 0 hp 56 [some (va_rf (some a0)), some (.int x1), none, some (.int x3), some (.int x4), some (.int x5), none, none, none, none, none] [.int xs0] := by
  intro a0 x1 x3 x4 x5 xs0 hp h
  unfold F_X8_lengthen_b56 at h
  refine r_istore (pc := 56) (lv' := [some (va_rf (some a0)), some (.int x1), none, some (.int x3), some (.int x4), some (.int x5), some (.int xs0), none, none, none, none]) K dX8_lengthen_56 (by decide) rfl ?_
  refine r_aload_n (pc := 58) K dX8_lengthen_58 rfl ?_
  refine r_iload (pc := 59) K dX8_lengthen_59 rfl ?_
  refine r_if_ne (pc := 61) (tgt := 68) K dX8_lengthen_61 (by decide) h (fun h _ => ?_) (fun h _ => ?_)
  · refine r_iload_n (pc := 68) K dX8_lengthen_68 rfl ?_
    refine r_iconst (pc := 69) (v := 1) K dX8_lengthen_69 (by decide) ?_
    refine r_bipush (pc := 70) (v := 12) K dX8_lengthen_70 (by decide) ?_
    refine s_int (pc := 72) (st := [va_rf (some a0)]) (As := [.int x3, .int 1, .int 12]) K E (fun _ e1 => M_X8_is K.2.2.2.2.2.2.1 _ _ _ _ _ e1) h dX8_lengthen_72 ce_X8_is cs_X8_is lk_RX8_80 rfl rfl (by decide) rfl rfl (Nat.le_of_ble_eq_true rfl) rfl rfl (by decide) (by decide) (fun x75 h75 h => ?_)
    refine r_if_ne (pc := 75) (tgt := 82) K dX8_lengthen_75 (by decide) h (fun h _ => ?_) (fun h _ => ?_)
    · refine r_iload (pc := 82) K dX8_lengthen_82 rfl ?_
      refine r_if_ne (pc := 84) (tgt := 91) K dX8_lengthen_84 (by decide) h (fun h _ => ?_) (fun h _ => ?_)
      · refine r_iconst (pc := 91) (v := 0) K dX8_lengthen_91 (by decide) ?_
        exact r_weak (lv2 := [some (va_rf (some a0)), some (.int x1), none, some (.int x3), none, some (.int x5), none, none, none, none, none]) ⟨rfl, rfl, rfl, rfl, trivial⟩ ((B_X8_lengthen_b92 K hr E  _ _ _ _ _ _ _ h))
      · refine r_iconst (pc := 87) (v := 3) K dX8_lengthen_87 (by decide) ?_
        refine r_goto (pc := 88) (tgt := 92) K dX8_lengthen_88 (by decide) ?_
        exact r_weak (lv2 := [some (va_rf (some a0)), some (.int x1), none, some (.int x3), none, some (.int x5), none, none, none, none, none]) ⟨rfl, rfl, rfl, rfl, trivial⟩ ((B_X8_lengthen_b92 K hr E  _ _ _ _ _ _ _ h))
    · refine r_iconst (pc := 78) (v := 2) K dX8_lengthen_78 (by decide) ?_
      refine r_goto (pc := 79) (tgt := 92) K dX8_lengthen_79 (by decide) ?_
      exact r_weak (lv2 := [some (va_rf (some a0)), some (.int x1), none, some (.int x3), none, some (.int x5), none, none, none, none, none]) ⟨rfl, rfl, rfl, rfl, trivial⟩ ((B_X8_lengthen_b92 K hr E  _ _ _ _ _ _ _ h))
  · refine r_iconst (pc := 64) (v := 1) K dX8_lengthen_64 (by decide) ?_
    refine r_goto (pc := 65) (tgt := 92) K dX8_lengthen_65 (by decide) ?_
    exact r_weak (lv2 := [some (va_rf (some a0)), some (.int x1), none, some (.int x3), none, some (.int x5), none, none, none, none, none]) ⟨rfl, rfl, rfl, rfl, trivial⟩ ((B_X8_lengthen_b92 K hr E  _ _ _ _ _ _ _ h))
set_option maxRecDepth 100000 in
set_option maxHeartbeats 4000000 in
theorem B_X8_lengthen_b55 (K : Cx strL D cA h0 p l s m args meth c cX8_lengthen RX8 11) (hr : meth.sig.returnType = (some .int)) (E : ∀ x ∈ c.exceptionTable.toList, False) {res : (Int32 ⊕ String) × hpT} : ∀ (a0 : Nat) (x1 : Int32) (x3 : Int32) (x4 : Int32) (x5 : Int32) (hp : hpT), F_X8_lengthen_b55  a0 x1 x3 x4 x5 hp = some res → G D cA h0 p l e rm_X8_lengthen s m args below meth c 11 (vx_MQ below (QI D cA h0 res) (XE D cA h0 res) args s 0 0 (Af h0)) 0 0 hp 55 [some (va_rf (some a0)), some (.int x1), none, some (.int x3), some (.int x4), some (.int x5), none, none, none, none, none] [] := by
  intro a0 x1 x3 x4 x5 hp h
  unfold F_X8_lengthen_b55 at h
  refine r_iconst (pc := 55) (v := 0) K dX8_lengthen_55 (by decide) ?_
  exact r_weak (lv2 := [some (va_rf (some a0)), some (.int x1), none, some (.int x3), some (.int x4), some (.int x5), none, none, none, none, none]) ⟨rfl, rfl, rfl, rfl, rfl, trivial⟩ ((B_X8_lengthen_b56 K hr E  _ _ _ _ _ _ _ h))
set_option maxRecDepth 100000 in
set_option maxHeartbeats 4000000 in
theorem B_X8_lengthen_b22 (K : Cx strL D cA h0 p l s m args meth c cX8_lengthen RX8 11) (hr : meth.sig.returnType = (some .int)) (E : ∀ x ∈ c.exceptionTable.toList, False) {res : (Int32 ⊕ String) × hpT} : ∀ (a0 : Nat) (x1 : Int32) (x3 : Int32) (x4 : Int32) (xs0 : Int32) (hp : hpT), F_X8_lengthen_b22  a0 x1 x3 x4 xs0 hp = some res → G D cA h0 p l e rm_X8_lengthen s m args below meth c 11 (vx_MQ below (QI D cA h0 res) (XE D cA h0 res) args s 0 0 (Af h0)) 0 0 hp 22 [some (va_rf (some a0)), some (.int x1), none, some (.int x3), some (.int x4), none, none, none, none, none, none] [.int xs0] := by
  intro a0 x1 x3 x4 xs0 hp h
  unfold F_X8_lengthen_b22 at h
  refine r_istore (pc := 22) (lv' := [some (va_rf (some a0)), some (.int x1), none, some (.int x3), some (.int x4), some (.int xs0), none, none, none, none, none]) K dX8_lengthen_22 (by decide) rfl ?_
  refine r_iload (pc := 24) K dX8_lengthen_24 rfl ?_
  refine r_if_eq (pc := 26) (tgt := 55) K dX8_lengthen_26 (by decide) h (fun h _ => ?_) (fun h _ => ?_)
  · exact r_weak (lv2 := [some (va_rf (some a0)), some (.int x1), none, some (.int x3), some (.int x4), some (.int xs0), none, none, none, none, none]) ⟨rfl, rfl, rfl, rfl, rfl, trivial⟩ ((B_X8_lengthen_b55 K hr E  _ _ _ _ _ _ h))
  · refine r_aload_n (pc := 29) K dX8_lengthen_29 rfl ?_
    refine r_iload_n (pc := 30) K dX8_lengthen_30 rfl ?_
    refine v_int (pc := 31) (st := []) (As := [.int x1]) (b := a0) (ci := 8) (q0 := (RX8, TX8, 29)) K E (fun _ e1 => M_X8_isHung K.2.2.2.2.2.2.1 _ _ _ _ e1) h dX8_lengthen_31 ce_X8_isHung cv_X8_isHung lk_RX8_121 rfl rfl rfl rfl (by decide) rfl rfl (Nat.le_of_ble_eq_true rfl) rfl rfl (by decide) (by decide) (fun x76 h76 h => ?_)
    refine r_if_eq (pc := 34) (tgt := 55) K dX8_lengthen_34 (by decide) h (fun h _ => ?_) (fun h _ => ?_)
    · exact r_weak (lv2 := [some (va_rf (some a0)), some (.int x1), none, some (.int x3), some (.int x4), some (.int xs0), none, none, none, none, none]) ⟨rfl, rfl, rfl, rfl, rfl, trivial⟩ ((B_X8_lengthen_b55 K hr E  _ _ _ _ _ _ h))
    · refine r_aload_n (pc := 37) K dX8_lengthen_37 rfl ?_
      refine r_getR (pc := 38) K dX8_lengthen_38 fk_RX8_46 h (fun r77 h => ?_)
      refine r_iload (pc := 41) K dX8_lengthen_41 rfl ?_
      refine nn_k h (fun a78 hz hq78 => ?_)
      subst hz
      have h := hq78
      refine r_iald (pc := 43) K dX8_lengthen_43 h (fun x79 h => ?_)
      refine r_iload_n (pc := 44) K dX8_lengthen_44 rfl ?_
      refine r_iadd (pc := 45) K dX8_lengthen_45 ?_
      refine r_bipush (pc := 46) (v := 24) K dX8_lengthen_46 (by decide) ?_
      refine r_icmp_gt (pc := 48) (tgt := 55) K dX8_lengthen_48 (by decide) h (fun h _ => ?_) (fun h _ => ?_)
      · exact r_weak (lv2 := [some (va_rf (some a0)), some (.int x1), none, some (.int x3), some (.int x4), some (.int xs0), none, none, none, none, none]) ⟨rfl, rfl, rfl, rfl, rfl, trivial⟩ ((B_X8_lengthen_b55 K hr E  _ _ _ _ _ _ h))
      · refine r_iconst (pc := 51) (v := 1) K dX8_lengthen_51 (by decide) ?_
        refine r_goto (pc := 52) (tgt := 56) K dX8_lengthen_52 (by decide) ?_
        exact r_weak (lv2 := [some (va_rf (some a0)), some (.int x1), none, some (.int x3), some (.int x4), some (.int xs0), none, none, none, none, none]) ⟨rfl, rfl, rfl, rfl, rfl, trivial⟩ ((B_X8_lengthen_b56 K hr E  _ _ _ _ _ _ _ h))
set_option maxRecDepth 100000 in
set_option maxHeartbeats 4000000 in
theorem M_X8_lengthen {D : va_G} {cA : Nat → ClassId} {h0 : Nat} {l : Launch} (hl : l.stackTraces = false) (a0 : Nat) (x1 : Int32) (x2 : Int32) (x3 : Int32) (hp : hpT) (res : (Int32 ⊕ String) × hpT) (h : F_X8_lengthen a0 x1 x2 x3 hp = some res) : vx_Met l yX8_lengthen (wsm yX8_lengthen cX8_lengthen 11 (some .int)) rm_X8_lengthen (va_Pc [va_rf (some a0), .int x1, .int x2, .int x3] (Pre strL D cA h0 hp)) (QI D cA h0 res) (XE D cA h0 res) 0 0 (Af h0) := by
  unfold F_X8_lengthen at h
  refine g_entry (by decide +kernel) hl (cat_c rfl (cat_c rfl (cat_c rfl (cat_c rfl (cat_n))))) (Nat.le_of_ble_eq_true rfl) (lv := [some (va_rf (some a0)), some (.int x1), some (.int x2), some (.int x3), none, none, none, none, none, none, none]) rfl ?_
  intro p e s m args below meth c K hr E hn
  have K : Cx strL D cA h0 p l s m args meth c cX8_lengthen RX8 11 := K
  refine r_aload_n (pc := 0) K dX8_lengthen_0 rfl ?_
  refine r_iload_n (pc := 1) K dX8_lengthen_1 rfl ?_
  refine r_iload_n (pc := 2) K dX8_lengthen_2 rfl ?_
  refine v_int (pc := 3) (st := []) (As := [.int x1, .int x2]) (b := a0) (ci := 8) (q0 := (RX8, TX8, 29)) K E (fun _ e1 => M_X8_isWall K.2.2.2.2.2.2.1 _ _ _ _ _ e1) h dX8_lengthen_3 ce_X8_isWall cv_X8_isWall lk_RX8_151 rfl rfl rfl rfl (by decide) rfl rfl (Nat.le_of_ble_eq_true rfl) rfl rfl (by decide) (by decide) (fun x80 h80 h => ?_)
  refine r_istore (pc := 6) (lv' := [some (va_rf (some a0)), some (.int x1), some (.int x2), some (.int x3), some (.int x80), none, none, none, none, none, none]) K dX8_lengthen_6 (by decide) rfl ?_
  refine r_iload (pc := 8) K dX8_lengthen_8 rfl ?_
  refine r_if_eq (pc := 10) (tgt := 21) K dX8_lengthen_10 (by decide) h (fun h _ => ?_) (fun h _ => ?_)
  · refine r_iconst (pc := 21) (v := 0) K dX8_lengthen_21 (by decide) ?_
    exact r_weak (lv2 := [some (va_rf (some a0)), some (.int x1), none, some (.int x3), some (.int x80), none, none, none, none, none, none]) ⟨rfl, rfl, rfl, rfl, trivial⟩ ((B_X8_lengthen_b22 K hr E  _ _ _ _ _ _ h))
  · refine r_iconst (pc := 13) (v := 4) K dX8_lengthen_13 (by decide) ?_
    refine r_iload_n (pc := 14) K dX8_lengthen_14 rfl ?_
    refine r_imul (pc := 15) K dX8_lengthen_15 ?_
    refine r_iload_n (pc := 16) K dX8_lengthen_16 rfl ?_
    refine r_iadd (pc := 17) K dX8_lengthen_17 ?_
    refine r_goto (pc := 18) (tgt := 22) K dX8_lengthen_18 (by decide) ?_
    exact r_weak (lv2 := [some (va_rf (some a0)), some (.int x1), none, some (.int x3), some (.int x80), none, none, none, none, none, none]) ⟨rfl, rfl, rfl, rfl, trivial⟩ ((B_X8_lengthen_b22 K hr E  _ _ _ _ _ _ h))
def rm_X8_strip : Room := { frames := 2, cells := 0, slots := 0, locals := 42 }
set_option maxRecDepth 100000 in
set_option maxHeartbeats 4000000 in
theorem B_X8_strip_b27 (K : Cx strL D cA h0 p l s m args meth c cX8_strip RX8 3) (hr : meth.sig.returnType = (some .int)) (E : ∀ x ∈ c.exceptionTable.toList, False) {res : (Int32 ⊕ String) × hpT} : ∀ (a0 : Nat) (x1 : Int32) (xs0 : Int32) (as1 : Nat) (hp : hpT), F_X8_strip_b27  a0 x1 xs0 as1 hp = some res → G D cA h0 p l e rm_X8_strip s m args below meth c 3 (vx_MQ below (QI D cA h0 res) (XE D cA h0 res) args s 0 0 (Af h0)) 0 0 hp 27 [some (va_rf (some a0)), some (.int x1), none] [.int xs0, va_rf (some as1)] := by
  intro a0 x1 xs0 as1 hp h
  unfold F_X8_strip_b27 at h
  refine v_int (pc := 27) (st := []) (As := [.int xs0]) (b := as1) (ci := 8) (q0 := (RX8, TX8, 29)) K E (fun _ e1 => M_X8_refused K.2.2.2.2.2.2.1 _ _ _ _ e1) h dX8_strip_27 ce_X8_refused cv_X8_refused lk_RX8_84 rfl rfl rfl rfl (by decide) rfl rfl (Nat.le_of_ble_eq_true rfl) rfl rfl (by decide) (by decide) (fun x21 h21 h => ?_)
  refine r_if_eq (pc := 30) (tgt := 35) K dX8_strip_30 (by decide) h (fun h _ => ?_) (fun h _ => ?_)
  · refine r_aload_n (pc := 35) K dX8_strip_35 rfl ?_
    refine r_iload_n (pc := 36) K dX8_strip_36 rfl ?_
    refine v_void (pc := 37) (st := []) (As := [.int x1]) (b := a0) (ci := 8) (q0 := (RX8, TX8, 29)) K E (fun _ e1 => M_X8_lose K.2.2.2.2.2.2.1 _ _ _ _ e1) h dX8_strip_37 ce_X8_lose cv_X8_lose lk_RX8_155 rfl rfl rfl rfl (by decide) rfl rfl (Nat.le_of_ble_eq_true rfl) rfl rfl (by decide) (by decide) (fun _ h22 h => ?_)
    refine r_aload_n (pc := 40) K dX8_strip_40 rfl ?_
    refine r_getR (pc := 41) K dX8_strip_41 fk_RX8_58 h (fun r23 h => ?_)
    refine r_iload_n (pc := 44) K dX8_strip_44 rfl ?_
    refine nn_k h (fun a24 hz hq24 => ?_)
    subst hz
    have h := hq24
    refine r_iald (pc := 45) K dX8_strip_45 h (fun x25 h => ?_)
    exact r_ireturn (pc := 46) K hr dX8_strip_46 h (by decide) (by decide)
  · refine r_iconst (pc := 33) (v := 0) K dX8_strip_33 (by decide) ?_
    exact r_ireturn (pc := 34) K hr dX8_strip_34 h (by decide) (by decide)
set_option maxRecDepth 100000 in
set_option maxHeartbeats 4000000 in
theorem M_X8_strip {D : va_G} {cA : Nat → ClassId} {h0 : Nat} {l : Launch} (hl : l.stackTraces = false) (a0 : Nat) (x1 : Int32) (hp : hpT) (res : (Int32 ⊕ String) × hpT) (h : F_X8_strip a0 x1 hp = some res) : vx_Met l yX8_strip (wsm yX8_strip cX8_strip 3 (some .int)) rm_X8_strip (va_Pc [va_rf (some a0), .int x1] (Pre strL D cA h0 hp)) (QI D cA h0 res) (XE D cA h0 res) 0 0 (Af h0) := by
  unfold F_X8_strip at h
  refine g_entry (by decide +kernel) hl (cat_c rfl (cat_c rfl (cat_n))) (Nat.le_of_ble_eq_true rfl) (lv := [some (va_rf (some a0)), some (.int x1), none]) rfl ?_
  intro p e s m args below meth c K hr E hn
  have K : Cx strL D cA h0 p l s m args meth c cX8_strip RX8 3 := K
  refine r_iload_n (pc := 0) K dX8_strip_0 rfl ?_
  refine s_int (pc := 1) (st := []) (As := [.int x1]) K E (fun _ e1 => M_X8_isRoom K.2.2.2.2.2.2.1 _ _ _ e1) h dX8_strip_1 ce_X8_isRoom cs_X8_isRoom lk_RX8_118 rfl rfl (by decide) rfl rfl (Nat.le_of_ble_eq_true rfl) rfl rfl (by decide) (by decide) (fun x26 h26 h => ?_)
  refine r_istore_n (pc := 4) (lv' := [some (va_rf (some a0)), some (.int x1), some (.int x26)]) K dX8_strip_4 (by decide) rfl ?_
  refine r_aload_n (pc := 5) K dX8_strip_5 rfl ?_
  refine r_iload_n (pc := 6) K dX8_strip_6 rfl ?_
  refine r_if_ne (pc := 7) (tgt := 14) K dX8_strip_7 (by decide) h (fun h _ => ?_) (fun h _ => ?_)
  · refine r_aload_n (pc := 14) K dX8_strip_14 rfl ?_
    refine r_iload_n (pc := 15) K dX8_strip_15 rfl ?_
    refine v_int (pc := 16) (st := [va_rf (some a0)]) (As := [.int x1]) (b := a0) (ci := 8) (q0 := (RX8, TX8, 29)) K E (fun _ e1 => M_X8_isHung K.2.2.2.2.2.2.1 _ _ _ _ e1) h dX8_strip_16 ce_X8_isHung cv_X8_isHung lk_RX8_121 rfl rfl rfl rfl (by decide) rfl rfl (Nat.le_of_ble_eq_true rfl) rfl rfl (by decide) (by decide) (fun x27 h27 h => ?_)
    refine r_if_ne (pc := 19) (tgt := 26) K dX8_strip_19 (by decide) h (fun h _ => ?_) (fun h _ => ?_)
    · refine r_iconst (pc := 26) (v := 0) K dX8_strip_26 (by decide) ?_
      exact r_weak (lv2 := [some (va_rf (some a0)), some (.int x1), none]) ⟨rfl, rfl, trivial⟩ ((B_X8_strip_b27 K hr E  _ _ _ _ _ h))
    · refine r_iconst (pc := 22) (v := 2) K dX8_strip_22 (by decide) ?_
      refine r_goto (pc := 23) (tgt := 27) K dX8_strip_23 (by decide) ?_
      exact r_weak (lv2 := [some (va_rf (some a0)), some (.int x1), none]) ⟨rfl, rfl, trivial⟩ ((B_X8_strip_b27 K hr E  _ _ _ _ _ h))
  · refine r_iconst (pc := 10) (v := 1) K dX8_strip_10 (by decide) ?_
    refine r_goto (pc := 11) (tgt := 27) K dX8_strip_11 (by decide) ?_
    exact r_weak (lv2 := [some (va_rf (some a0)), some (.int x1), none]) ⟨rfl, rfl, trivial⟩ ((B_X8_strip_b27 K hr E  _ _ _ _ _ h))
def rm_X8_sum : Room := { frames := 0, cells := 0, slots := 0, locals := 0 }
set_option maxRecDepth 100000 in
set_option maxHeartbeats 4000000 in
theorem B_X8_sum_b47 (K : Cx strL D cA h0 p l s m args meth c cX8_sum RX8 5) (hr : meth.sig.returnType = (some .int)) (E : ∀ x ∈ c.exceptionTable.toList, False) {res : (Int32 ⊕ String) × hpT} {K5 : Nat → Int32 → Int32 → Int32 → Int32 → hpT → Rs Int32} (hK5 : ∀ (a0 : Nat) (x1 : Int32) (x2 : Int32) (x3 : Int32) (x4 : Int32) (hp : hpT), K5 a0 x1 x2 x3 x4 hp = some res → G D cA h0 p l e rm_X8_sum s m args below meth c 5 (vx_MQ below (QI D cA h0 res) (XE D cA h0 res) args s 0 0 (Af h0)) 0 0 hp 5 [some (va_rf (some a0)), some (.int x1), some (.int x2), some (.int x3), some (.int x4)] []) : ∀ (a0 : Nat) (x1 : Int32) (x2 : Int32) (x4 : Int32) (xs0 : Int32) (xs1 : Int32) (xs2 : Int32) (hp : hpT), F_X8_sum_b47 K5 a0 x1 x2 x4 xs0 xs1 xs2 hp = some res → G D cA h0 p l e rm_X8_sum s m args below meth c 5 (vx_MQ below (QI D cA h0 res) (XE D cA h0 res) args s 0 0 (Af h0)) 0 0 hp 47 [some (va_rf (some a0)), some (.int x1), some (.int x2), none, some (.int x4)] [.int xs0, .int xs1, .int xs2] := by
  intro a0 x1 x2 x4 xs0 xs1 xs2 hp h
  unfold F_X8_sum_b47 at h
  refine r_imul (pc := 47) K dX8_sum_47 ?_
  refine r_iadd (pc := 48) K dX8_sum_48 ?_
  refine r_istore_n (pc := 49) (lv' := [some (va_rf (some a0)), some (.int x1), some (.int x2), some (.int (xs2 + (xs1 * xs0))), some (.int x4)]) K dX8_sum_49 (by decide) rfl ?_
  refine r_iinc (pc := 50) (v := (x4 + 1)) (lv' := [some (va_rf (some a0)), some (.int x1), some (.int x2), some (.int (xs2 + (xs1 * xs0))), some (.int (x4 + 1))]) K dX8_sum_50 rfl rfl (by decide) rfl ?_
  refine r_goto (pc := 53) (tgt := 5) K dX8_sum_53 (by decide) ?_
  exact r_weak (lv2 := [some (va_rf (some a0)), some (.int x1), some (.int x2), some (.int (xs2 + (xs1 * xs0))), some (.int (x4 + 1))]) ⟨rfl, rfl, rfl, rfl, rfl, trivial⟩ ((hK5 _ _ _ _ _ _ h))
set_option maxRecDepth 100000 in
set_option maxHeartbeats 4000000 in
theorem B_X8_sum_b5 (K : Cx strL D cA h0 p l s m args meth c cX8_sum RX8 5) (hr : meth.sig.returnType = (some .int)) (E : ∀ x ∈ c.exceptionTable.toList, False) {res : (Int32 ⊕ String) × hpT} : ∀ (n : Nat) (a0 : Nat) (x1 : Int32) (x2 : Int32) (x3 : Int32) (x4 : Int32) (hp : hpT), F_X8_sum_b5  n a0 x1 x2 x3 x4 hp = some res → G D cA h0 p l e rm_X8_sum s m args below meth c 5 (vx_MQ below (QI D cA h0 res) (XE D cA h0 res) args s 0 0 (Af h0)) 0 0 hp 5 [some (va_rf (some a0)), some (.int x1), some (.int x2), some (.int x3), some (.int x4)] [] := by
  intro n
  induction n with
  | zero => intro a0 x1 x2 x3 x4 hp h; cases h
  | succ n ih =>
    intro a0 x1 x2 x3 x4 hp h
    rw [F_X8_sum_b5] at h
    refine r_iload (pc := 5) K dX8_sum_5 rfl ?_
    refine r_aload_n (pc := 7) K dX8_sum_7 rfl ?_
    refine r_getR (pc := 8) K dX8_sum_8 fk_RX8_43 h (fun r21 h => ?_)
    refine r_iload_n (pc := 11) K dX8_sum_11 rfl ?_
    refine nn_k h (fun a22 hz hq22 => ?_)
    subst hz
    have h := hq22
    refine r_iald (pc := 12) K dX8_sum_12 h (fun x23 h => ?_)
    refine r_icmp_ge (pc := 13) (tgt := 56) K dX8_sum_13 (by decide) h (fun h _ => ?_) (fun h _ => ?_)
    · refine r_iload_n (pc := 56) K dX8_sum_56 rfl ?_
      exact r_ireturn (pc := 57) K hr dX8_sum_57 h (by decide) (by decide)
    · refine r_iload_n (pc := 16) K dX8_sum_16 rfl ?_
      refine r_aload_n (pc := 17) K dX8_sum_17 rfl ?_
      refine r_getR (pc := 18) K dX8_sum_18 fk_RX8_46 h (fun r24 h => ?_)
      refine r_iconst (pc := 21) (v := 4) K dX8_sum_21 (by decide) ?_
      refine r_iload_n (pc := 22) K dX8_sum_22 rfl ?_
      refine r_imul (pc := 23) K dX8_sum_23 ?_
      refine r_iload (pc := 24) K dX8_sum_24 rfl ?_
      refine r_iadd (pc := 26) K dX8_sum_26 ?_
      refine nn_k h (fun a25 hz hq25 => ?_)
      subst hz
      have h := hq25
      refine r_iald (pc := 27) K dX8_sum_27 h (fun x26 h => ?_)
      refine r_iload_n (pc := 28) K dX8_sum_28 rfl ?_
      refine r_if_eq (pc := 29) (tgt := 46) K dX8_sum_29 (by decide) h (fun h _ => ?_) (fun h _ => ?_)
      · refine r_iconst (pc := 46) (v := 1) K dX8_sum_46 (by decide) ?_
        exact r_weak (lv2 := [some (va_rf (some a0)), some (.int x1), some (.int x2), none, some (.int x4)]) ⟨rfl, rfl, rfl, rfl, trivial⟩ ((B_X8_sum_b47 K hr E ih  _ _ _ _ _ _ _ _ h))
      · refine r_aload_n (pc := 32) K dX8_sum_32 rfl ?_
        refine r_getR (pc := 33) K dX8_sum_33 fk_RX8_49 h (fun r27 h => ?_)
        refine r_iconst (pc := 36) (v := 4) K dX8_sum_36 (by decide) ?_
        refine r_iload_n (pc := 37) K dX8_sum_37 rfl ?_
        refine r_imul (pc := 38) K dX8_sum_38 ?_
        refine r_iload (pc := 39) K dX8_sum_39 rfl ?_
        refine r_iadd (pc := 41) K dX8_sum_41 ?_
        refine nn_k h (fun a28 hz hq28 => ?_)
        subst hz
        have h := hq28
        refine r_iald (pc := 42) K dX8_sum_42 h (fun x29 h => ?_)
        refine r_goto (pc := 43) (tgt := 47) K dX8_sum_43 (by decide) ?_
        exact r_weak (lv2 := [some (va_rf (some a0)), some (.int x1), some (.int x2), none, some (.int x4)]) ⟨rfl, rfl, rfl, rfl, trivial⟩ ((B_X8_sum_b47 K hr E ih  _ _ _ _ _ _ _ _ h))
set_option maxRecDepth 100000 in
set_option maxHeartbeats 4000000 in
theorem M_X8_sum {D : va_G} {cA : Nat → ClassId} {h0 : Nat} {l : Launch} (hl : l.stackTraces = false) (a0 : Nat) (x1 : Int32) (x2 : Int32) (hp : hpT) (res : (Int32 ⊕ String) × hpT) (h : F_X8_sum a0 x1 x2 hp = some res) : vx_Met l yX8_sum (wsm yX8_sum cX8_sum 5 (some .int)) rm_X8_sum (va_Pc [va_rf (some a0), .int x1, .int x2] (Pre strL D cA h0 hp)) (QI D cA h0 res) (XE D cA h0 res) 0 0 (Af h0) := by
  unfold F_X8_sum at h
  refine g_entry (by decide +kernel) hl (cat_c rfl (cat_c rfl (cat_c rfl (cat_n)))) (Nat.le_of_ble_eq_true rfl) (lv := [some (va_rf (some a0)), some (.int x1), some (.int x2), none, none]) rfl ?_
  intro p e s m args below meth c K hr E hn
  have K : Cx strL D cA h0 p l s m args meth c cX8_sum RX8 5 := K
  refine r_iconst (pc := 0) (v := 0) K dX8_sum_0 (by decide) ?_
  refine r_istore_n (pc := 1) (lv' := [some (va_rf (some a0)), some (.int x1), some (.int x2), some (.int 0), none]) K dX8_sum_1 (by decide) rfl ?_
  refine r_iconst (pc := 2) (v := 0) K dX8_sum_2 (by decide) ?_
  refine r_istore (pc := 3) (lv' := [some (va_rf (some a0)), some (.int x1), some (.int x2), some (.int 0), some (.int 0)]) K dX8_sum_3 (by decide) rfl ?_
  exact r_weak (lv2 := [some (va_rf (some a0)), some (.int x1), some (.int x2), some (.int 0), some (.int 0)]) ⟨rfl, rfl, rfl, rfl, rfl, trivial⟩ ((B_X8_sum_b5 K hr E 1000 _ _ _ _ _ _ h))
def rm_X8_room : Room := { frames := 2, cells := 0, slots := 0, locals := 42 }
set_option maxRecDepth 100000 in
set_option maxHeartbeats 4000000 in
theorem B_X8_room_b26 (K : Cx strL D cA h0 p l s m args meth c cX8_room RX8 3) (hr : meth.sig.returnType = (some .int)) (E : ∀ x ∈ c.exceptionTable.toList, False) {res : (Int32 ⊕ String) × hpT} : ∀ (a0 : Nat) (x1 : Int32) (x2 : Int32) (xs0 : Int32) (as1 : Nat) (hp : hpT), F_X8_room_b26  a0 x1 x2 xs0 as1 hp = some res → G D cA h0 p l e rm_X8_room s m args below meth c 3 (vx_MQ below (QI D cA h0 res) (XE D cA h0 res) args s 0 0 (Af h0)) 0 0 hp 26 [some (va_rf (some a0)), some (.int x1), some (.int x2)] [.int xs0, va_rf (some as1)] := by
  intro a0 x1 x2 xs0 as1 hp h
  unfold F_X8_room_b26 at h
  refine v_int (pc := 26) (st := []) (As := [.int xs0]) (b := as1) (ci := 8) (q0 := (RX8, TX8, 29)) K E (fun _ e1 => M_X8_refused K.2.2.2.2.2.2.1 _ _ _ _ e1) h dX8_room_26 ce_X8_refused cv_X8_refused lk_RX8_84 rfl rfl rfl rfl (by decide) rfl rfl (Nat.le_of_ble_eq_true rfl) rfl rfl (by decide) (by decide) (fun x21 h21 h => ?_)
  refine r_if_eq (pc := 29) (tgt := 34) K dX8_room_29 (by decide) h (fun h _ => ?_) (fun h _ => ?_)
  · refine r_iload_n (pc := 34) K dX8_room_34 rfl ?_
    refine r_iconst (pc := 35) (v := 2) K dX8_room_35 (by decide) ?_
    refine r_icmp_ge (pc := 36) (tgt := 59) K dX8_room_36 (by decide) h (fun h _ => ?_) (fun h _ => ?_)
    · refine r_aload_n (pc := 59) K dX8_room_59 rfl ?_
      refine r_iload_n (pc := 60) K dX8_room_60 rfl ?_
      refine v_int (pc := 61) (st := []) (As := [.int x1]) (b := a0) (ci := 8) (q0 := (RX8, TX8, 29)) K E (fun _ e1 => M_X8_isHung K.2.2.2.2.2.2.1 _ _ _ _ e1) h dX8_room_61 ce_X8_isHung cv_X8_isHung lk_RX8_121 rfl rfl rfl rfl (by decide) rfl rfl (Nat.le_of_ble_eq_true rfl) rfl rfl (by decide) (by decide) (fun x22 h22 h => ?_)
      refine r_if_ne (pc := 64) (tgt := 69) K dX8_room_64 (by decide) h (fun h _ => ?_) (fun h _ => ?_)
      · refine r_iload_n (pc := 69) K dX8_room_69 rfl ?_
        refine r_iconst (pc := 70) (v := 2) K dX8_room_70 (by decide) ?_
        refine r_icmp_ne (pc := 71) (tgt := 83) K dX8_room_71 (by decide) h (fun h _ => ?_) (fun h _ => ?_)
        · refine r_iload_n (pc := 83) K dX8_room_83 rfl ?_
          refine r_iconst (pc := 84) (v := 3) K dX8_room_84 (by decide) ?_
          refine r_icmp_ne (pc := 85) (tgt := 97) K dX8_room_85 (by decide) h (fun h _ => ?_) (fun h _ => ?_)
          · refine r_iload_n (pc := 97) K dX8_room_97 rfl ?_
            refine r_iconst (pc := 98) (v := 4) K dX8_room_98 (by decide) ?_
            refine r_icmp_ne (pc := 99) (tgt := 111) K dX8_room_99 (by decide) h (fun h _ => ?_) (fun h _ => ?_)
            · refine r_aload_n (pc := 111) K dX8_room_111 rfl ?_
              refine r_getR (pc := 112) K dX8_room_112 fk_RX8_58 h (fun r23 h => ?_)
              refine r_iload_n (pc := 115) K dX8_room_115 rfl ?_
              refine nn_k h (fun a24 hz hq24 => ?_)
              subst hz
              have h := hq24
              refine r_iald (pc := 116) K dX8_room_116 h (fun x25 h => ?_)
              refine r_aload_n (pc := 117) K dX8_room_117 rfl ?_
              refine r_getR (pc := 118) K dX8_room_118 fk_RX8_40 h (fun r26 h => ?_)
              refine r_aload_n (pc := 121) K dX8_room_121 rfl ?_
              refine r_getR (pc := 122) K dX8_room_122 fk_RX8_52 h (fun r27 h => ?_)
              refine r_iload_n (pc := 125) K dX8_room_125 rfl ?_
              refine nn_k h (fun a28 hz hq28 => ?_)
              subst hz
              have h := hq28
              refine r_iald (pc := 126) K dX8_room_126 h (fun x29 h => ?_)
              refine nn_k h (fun a30 hz hq30 => ?_)
              subst hz
              have h := hq30
              refine r_iald (pc := 127) K dX8_room_127 h (fun x31 h => ?_)
              refine r_imul (pc := 128) K dX8_room_128 ?_
              refine r_aload_n (pc := 129) K dX8_room_129 rfl ?_
              refine r_iload_n (pc := 130) K dX8_room_130 rfl ?_
              refine r_iconst (pc := 131) (v := 1) K dX8_room_131 (by decide) ?_
              refine v_int (pc := 132) (st := [.int (x25 * x31)]) (As := [.int x1, .int 1]) (b := a0) (ci := 8) (q0 := (RX8, TX8, 29)) K E (fun _ e1 => M_X8_sum K.2.2.2.2.2.2.1 _ _ _ _ _ e1) h dX8_room_132 ce_X8_sum cv_X8_sum lk_RX8_158 rfl rfl rfl rfl (by decide) rfl rfl (Nat.le_of_ble_eq_true rfl) rfl rfl (by decide) (by decide) (fun x32 h32 h => ?_)
              refine r_isub (pc := 135) K dX8_room_135 ?_
              exact r_ireturn (pc := 136) K hr dX8_room_136 h (by decide) (by decide)
            · refine r_aload_n (pc := 102) K dX8_room_102 rfl ?_
              refine r_getR (pc := 103) K dX8_room_103 fk_RX8_58 h (fun r33 h => ?_)
              refine r_iload_n (pc := 106) K dX8_room_106 rfl ?_
              refine nn_k h (fun a34 hz hq34 => ?_)
              subst hz
              have h := hq34
              refine r_iald (pc := 107) K dX8_room_107 h (fun x35 h => ?_)
              refine r_goto (pc := 108) (tgt := 136) K dX8_room_108 (by decide) ?_
              exact r_ireturn (pc := 136) K hr dX8_room_136 h (by decide) (by decide)
          · refine r_aload_n (pc := 88) K dX8_room_88 rfl ?_
            refine r_getR (pc := 89) K dX8_room_89 fk_RX8_55 h (fun r36 h => ?_)
            refine r_iload_n (pc := 92) K dX8_room_92 rfl ?_
            refine nn_k h (fun a37 hz hq37 => ?_)
            subst hz
            have h := hq37
            refine r_iald (pc := 93) K dX8_room_93 h (fun x38 h => ?_)
            refine r_goto (pc := 94) (tgt := 136) K dX8_room_94 (by decide) ?_
            exact r_ireturn (pc := 136) K hr dX8_room_136 h (by decide) (by decide)
        · refine r_aload_n (pc := 74) K dX8_room_74 rfl ?_
          refine r_getR (pc := 75) K dX8_room_75 fk_RX8_52 h (fun r39 h => ?_)
          refine r_iload_n (pc := 78) K dX8_room_78 rfl ?_
          refine nn_k h (fun a40 hz hq40 => ?_)
          subst hz
          have h := hq40
          refine r_iald (pc := 79) K dX8_room_79 h (fun x41 h => ?_)
          refine r_goto (pc := 80) (tgt := 136) K dX8_room_80 (by decide) ?_
          exact r_ireturn (pc := 136) K hr dX8_room_136 h (by decide) (by decide)
      · refine r_iconst (pc := 67) (v := (-1)) K dX8_room_67 (by decide) ?_
        exact r_ireturn (pc := 68) K hr dX8_room_68 h (by decide) (by decide)
    · refine r_iload_n (pc := 39) K dX8_room_39 rfl ?_
      refine r_if_ne (pc := 40) (tgt := 52) K dX8_room_40 (by decide) h (fun h _ => ?_) (fun h _ => ?_)
      · refine r_aload_n (pc := 52) K dX8_room_52 rfl ?_
        refine r_iload_n (pc := 53) K dX8_room_53 rfl ?_
        refine r_iconst (pc := 54) (v := 0) K dX8_room_54 (by decide) ?_
        refine v_int (pc := 55) (st := []) (As := [.int x1, .int 0]) (b := a0) (ci := 8) (q0 := (RX8, TX8, 29)) K E (fun _ e1 => M_X8_sum K.2.2.2.2.2.2.1 _ _ _ _ _ e1) h dX8_room_55 ce_X8_sum cv_X8_sum lk_RX8_158 rfl rfl rfl rfl (by decide) rfl rfl (Nat.le_of_ble_eq_true rfl) rfl rfl (by decide) (by decide) (fun x42 h42 h => ?_)
        exact r_ireturn (pc := 58) K hr dX8_room_58 h (by decide) (by decide)
      · refine r_aload_n (pc := 43) K dX8_room_43 rfl ?_
        refine r_getR (pc := 44) K dX8_room_44 fk_RX8_43 h (fun r43 h => ?_)
        refine r_iload_n (pc := 47) K dX8_room_47 rfl ?_
        refine nn_k h (fun a44 hz hq44 => ?_)
        subst hz
        have h := hq44
        refine r_iald (pc := 48) K dX8_room_48 h (fun x45 h => ?_)
        refine r_goto (pc := 49) (tgt := 58) K dX8_room_49 (by decide) ?_
        exact r_ireturn (pc := 58) K hr dX8_room_58 h (by decide) (by decide)
  · refine r_iconst (pc := 32) (v := 0) K dX8_room_32 (by decide) ?_
    exact r_ireturn (pc := 33) K hr dX8_room_33 h (by decide) (by decide)
set_option maxRecDepth 100000 in
set_option maxHeartbeats 4000000 in
theorem M_X8_room {D : va_G} {cA : Nat → ClassId} {h0 : Nat} {l : Launch} (hl : l.stackTraces = false) (a0 : Nat) (x1 : Int32) (x2 : Int32) (hp : hpT) (res : (Int32 ⊕ String) × hpT) (h : F_X8_room a0 x1 x2 hp = some res) : vx_Met l yX8_room (wsm yX8_room cX8_room 3 (some .int)) rm_X8_room (va_Pc [va_rf (some a0), .int x1, .int x2] (Pre strL D cA h0 hp)) (QI D cA h0 res) (XE D cA h0 res) 0 0 (Af h0) := by
  unfold F_X8_room at h
  refine g_entry (by decide +kernel) hl (cat_c rfl (cat_c rfl (cat_c rfl (cat_n)))) (Nat.le_of_ble_eq_true rfl) (lv := [some (va_rf (some a0)), some (.int x1), some (.int x2)]) rfl ?_
  intro p e s m args below meth c K hr E hn
  have K : Cx strL D cA h0 p l s m args meth c cX8_room RX8 3 := K
  refine r_aload_n (pc := 0) K dX8_room_0 rfl ?_
  refine r_iload_n (pc := 1) K dX8_room_1 rfl ?_
  refine s_int (pc := 2) (st := [va_rf (some a0)]) (As := [.int x1]) K E (fun _ e1 => M_X8_isRoom K.2.2.2.2.2.2.1 _ _ _ e1) h dX8_room_2 ce_X8_isRoom cs_X8_isRoom lk_RX8_118 rfl rfl (by decide) rfl rfl (Nat.le_of_ble_eq_true rfl) rfl rfl (by decide) (by decide) (fun x46 h46 h => ?_)
  refine r_if_ne (pc := 5) (tgt := 12) K dX8_room_5 (by decide) h (fun h _ => ?_) (fun h _ => ?_)
  · refine r_iload_n (pc := 12) K dX8_room_12 rfl ?_
    refine r_iconst (pc := 13) (v := 0) K dX8_room_13 (by decide) ?_
    refine r_iconst (pc := 14) (v := 5) K dX8_room_14 (by decide) ?_
    refine s_int (pc := 15) (st := [va_rf (some a0)]) (As := [.int x2, .int 0, .int 5]) K E (fun _ e1 => M_X8_is K.2.2.2.2.2.2.1 _ _ _ _ _ e1) h dX8_room_15 ce_X8_is cs_X8_is lk_RX8_80 rfl rfl (by decide) rfl rfl (Nat.le_of_ble_eq_true rfl) rfl rfl (by decide) (by decide) (fun x47 h47 h => ?_)
    refine r_if_ne (pc := 18) (tgt := 25) K dX8_room_18 (by decide) h (fun h _ => ?_) (fun h _ => ?_)
    · refine r_iconst (pc := 25) (v := 0) K dX8_room_25 (by decide) ?_
      exact r_weak (lv2 := [some (va_rf (some a0)), some (.int x1), some (.int x2)]) ⟨rfl, rfl, rfl, trivial⟩ ((B_X8_room_b26 K hr E  _ _ _ _ _ _ h))
    · refine r_iconst (pc := 21) (v := 2) K dX8_room_21 (by decide) ?_
      refine r_goto (pc := 22) (tgt := 26) K dX8_room_22 (by decide) ?_
      exact r_weak (lv2 := [some (va_rf (some a0)), some (.int x1), some (.int x2)]) ⟨rfl, rfl, rfl, trivial⟩ ((B_X8_room_b26 K hr E  _ _ _ _ _ _ h))
  · refine r_iconst (pc := 8) (v := 1) K dX8_room_8 (by decide) ?_
    refine r_goto (pc := 9) (tgt := 26) K dX8_room_9 (by decide) ?_
    exact r_weak (lv2 := [some (va_rf (some a0)), some (.int x1), some (.int x2)]) ⟨rfl, rfl, rfl, trivial⟩ ((B_X8_room_b26 K hr E  _ _ _ _ _ _ h))
def rm_X8_cut : Room := { frames := 3, cells := 0, slots := 0, locals := 64 }
set_option maxRecDepth 100000 in
set_option maxHeartbeats 4000000 in
theorem B_X8_cut_b47 (K : Cx strL D cA h0 p l s m args meth c cX8_cut RX8 6) (hr : meth.sig.returnType = (some .int)) (E : ∀ x ∈ c.exceptionTable.toList, False) {res : (Int32 ⊕ String) × hpT} : ∀ (a0 : Nat) (x1 : Int32) (x2 : Int32) (x3 : Int32) (xs0 : Int32) (as1 : Nat) (hp : hpT), F_X8_cut_b47  a0 x1 x2 x3 xs0 as1 hp = some res → G D cA h0 p l e rm_X8_cut s m args below meth c 6 (vx_MQ below (QI D cA h0 res) (XE D cA h0 res) args s 0 0 (Af h0)) 0 0 hp 47 [some (va_rf (some a0)), some (.int x1), some (.int x2), some (.int x3), none, none] [.int xs0, va_rf (some as1)] := by
  intro a0 x1 x2 x3 xs0 as1 hp h
  unfold F_X8_cut_b47 at h
  refine v_int (pc := 47) (st := []) (As := [.int xs0]) (b := as1) (ci := 8) (q0 := (RX8, TX8, 29)) K E (fun _ e1 => M_X8_refused K.2.2.2.2.2.2.1 _ _ _ _ e1) h dX8_cut_47 ce_X8_refused cv_X8_refused lk_RX8_84 rfl rfl rfl rfl (by decide) rfl rfl (Nat.le_of_ble_eq_true rfl) rfl rfl (by decide) (by decide) (fun x21 h21 h => ?_)
  refine r_if_eq (pc := 50) (tgt := 55) K dX8_cut_50 (by decide) h (fun h _ => ?_) (fun h _ => ?_)
  · refine r_bipush (pc := 55) (v := 24) K dX8_cut_55 (by decide) ?_
    refine r_iconst (pc := 57) (v := 4) K dX8_cut_57 (by decide) ?_
    refine r_iload_n (pc := 58) K dX8_cut_58 rfl ?_
    refine r_imul (pc := 59) K dX8_cut_59 ?_
    refine r_iload_n (pc := 60) K dX8_cut_60 rfl ?_
    refine r_iadd (pc := 61) K dX8_cut_61 ?_
    refine r_imul (pc := 62) K dX8_cut_62 ?_
    refine r_iload_n (pc := 63) K dX8_cut_63 rfl ?_
    refine r_iadd (pc := 64) K dX8_cut_64 ?_
    refine r_istore (pc := 65) (lv' := [some (va_rf (some a0)), some (.int x1), some (.int x2), some (.int x3), none, some (.int ((24 * ((4 * x1) + x2)) + x3))]) K dX8_cut_65 (by decide) rfl ?_
    refine r_aload_n (pc := 67) K dX8_cut_67 rfl ?_
    refine r_iload_n (pc := 68) K dX8_cut_68 rfl ?_
    refine v_int (pc := 69) (st := []) (As := [.int x1]) (b := a0) (ci := 8) (q0 := (RX8, TX8, 29)) K E (fun _ e1 => M_X8_isHung K.2.2.2.2.2.2.1 _ _ _ _ e1) h dX8_cut_69 ce_X8_isHung cv_X8_isHung lk_RX8_121 rfl rfl rfl rfl (by decide) rfl rfl (Nat.le_of_ble_eq_true rfl) rfl rfl (by decide) (by decide) (fun x22 h22 h => ?_)
    refine r_if_eq (pc := 72) (tgt := 97) K dX8_cut_72 (by decide) h (fun h _ => ?_) (fun h _ => ?_)
    · refine r_iconst (pc := 97) (v := (-1)) K dX8_cut_97 (by decide) ?_
      exact r_ireturn (pc := 98) K hr dX8_cut_98 h (by decide) (by decide)
    · refine r_sipush (pc := 75) (v := 1000) K dX8_cut_75 (by decide) ?_
      refine r_aload_n (pc := 78) K dX8_cut_78 rfl ?_
      refine r_getR (pc := 79) K dX8_cut_79 fk_RX8_67 h (fun r23 h => ?_)
      refine r_iload (pc := 82) K dX8_cut_82 rfl ?_
      refine nn_k h (fun a24 hz hq24 => ?_)
      subst hz
      have h := hq24
      refine r_iald (pc := 84) K dX8_cut_84 h (fun x25 h => ?_)
      refine r_imul (pc := 85) K dX8_cut_85 ?_
      refine r_aload_n (pc := 86) K dX8_cut_86 rfl ?_
      refine r_getR (pc := 87) K dX8_cut_87 fk_RX8_70 h (fun r26 h => ?_)
      refine r_iload (pc := 90) K dX8_cut_90 rfl ?_
      refine nn_k h (fun a27 hz hq27 => ?_)
      subst hz
      have h := hq27
      refine r_iald (pc := 92) K dX8_cut_92 h (fun x28 h => ?_)
      refine r_iadd (pc := 93) K dX8_cut_93 ?_
      refine r_goto (pc := 94) (tgt := 98) K dX8_cut_94 (by decide) ?_
      exact r_ireturn (pc := 98) K hr dX8_cut_98 h (by decide) (by decide)
  · refine r_iconst (pc := 53) (v := 0) K dX8_cut_53 (by decide) ?_
    exact r_ireturn (pc := 54) K hr dX8_cut_54 h (by decide) (by decide)
set_option maxRecDepth 100000 in
set_option maxHeartbeats 4000000 in
theorem B_X8_cut_b34 (K : Cx strL D cA h0 p l s m args meth c cX8_cut RX8 6) (hr : meth.sig.returnType = (some .int)) (E : ∀ x ∈ c.exceptionTable.toList, False) {res : (Int32 ⊕ String) × hpT} : ∀ (a0 : Nat) (x1 : Int32) (x2 : Int32) (x3 : Int32) (xs0 : Int32) (hp : hpT), F_X8_cut_b34  a0 x1 x2 x3 xs0 hp = some res → G D cA h0 p l e rm_X8_cut s m args below meth c 6 (vx_MQ below (QI D cA h0 res) (XE D cA h0 res) args s 0 0 (Af h0)) 0 0 hp 34 [some (va_rf (some a0)), some (.int x1), some (.int x2), some (.int x3), none, none] [.int xs0] := by
  intro a0 x1 x2 x3 xs0 hp h
  unfold F_X8_cut_b34 at h
  refine r_istore (pc := 34) (lv' := [some (va_rf (some a0)), some (.int x1), some (.int x2), some (.int x3), some (.int xs0), none]) K dX8_cut_34 (by decide) rfl ?_
  refine r_aload_n (pc := 36) K dX8_cut_36 rfl ?_
  refine r_iload (pc := 37) K dX8_cut_37 rfl ?_
  refine r_if_eq (pc := 39) (tgt := 46) K dX8_cut_39 (by decide) h (fun h _ => ?_) (fun h _ => ?_)
  · refine r_iconst (pc := 46) (v := 1) K dX8_cut_46 (by decide) ?_
    exact r_weak (lv2 := [some (va_rf (some a0)), some (.int x1), some (.int x2), some (.int x3), none, none]) ⟨rfl, rfl, rfl, rfl, trivial⟩ ((B_X8_cut_b47 K hr E  _ _ _ _ _ _ _ h))
  · refine r_iconst (pc := 42) (v := 0) K dX8_cut_42 (by decide) ?_
    refine r_goto (pc := 43) (tgt := 47) K dX8_cut_43 (by decide) ?_
    exact r_weak (lv2 := [some (va_rf (some a0)), some (.int x1), some (.int x2), some (.int x3), none, none]) ⟨rfl, rfl, rfl, rfl, trivial⟩ ((B_X8_cut_b47 K hr E  _ _ _ _ _ _ _ h))
set_option maxRecDepth 100000 in
set_option maxHeartbeats 4000000 in
theorem B_X8_cut_b33 (K : Cx strL D cA h0 p l s m args meth c cX8_cut RX8 6) (hr : meth.sig.returnType = (some .int)) (E : ∀ x ∈ c.exceptionTable.toList, False) {res : (Int32 ⊕ String) × hpT} : ∀ (a0 : Nat) (x1 : Int32) (x2 : Int32) (x3 : Int32) (hp : hpT), F_X8_cut_b33  a0 x1 x2 x3 hp = some res → G D cA h0 p l e rm_X8_cut s m args below meth c 6 (vx_MQ below (QI D cA h0 res) (XE D cA h0 res) args s 0 0 (Af h0)) 0 0 hp 33 [some (va_rf (some a0)), some (.int x1), some (.int x2), some (.int x3), none, none] [] := by
  intro a0 x1 x2 x3 hp h
  unfold F_X8_cut_b33 at h
  refine r_iconst (pc := 33) (v := 0) K dX8_cut_33 (by decide) ?_
  exact r_weak (lv2 := [some (va_rf (some a0)), some (.int x1), some (.int x2), some (.int x3), none, none]) ⟨rfl, rfl, rfl, rfl, trivial⟩ ((B_X8_cut_b34 K hr E  _ _ _ _ _ _ h))
set_option maxRecDepth 100000 in
set_option maxHeartbeats 4000000 in
theorem M_X8_cut {D : va_G} {cA : Nat → ClassId} {h0 : Nat} {l : Launch} (hl : l.stackTraces = false) (a0 : Nat) (x1 : Int32) (x2 : Int32) (x3 : Int32) (hp : hpT) (res : (Int32 ⊕ String) × hpT) (h : F_X8_cut a0 x1 x2 x3 hp = some res) : vx_Met l yX8_cut (wsm yX8_cut cX8_cut 6 (some .int)) rm_X8_cut (va_Pc [va_rf (some a0), .int x1, .int x2, .int x3] (Pre strL D cA h0 hp)) (QI D cA h0 res) (XE D cA h0 res) 0 0 (Af h0) := by
  unfold F_X8_cut at h
  refine g_entry (by decide +kernel) hl (cat_c rfl (cat_c rfl (cat_c rfl (cat_c rfl (cat_n))))) (Nat.le_of_ble_eq_true rfl) (lv := [some (va_rf (some a0)), some (.int x1), some (.int x2), some (.int x3), none, none]) rfl ?_
  intro p e s m args below meth c K hr E hn
  have K : Cx strL D cA h0 p l s m args meth c cX8_cut RX8 6 := K
  refine r_aload_n (pc := 0) K dX8_cut_0 rfl ?_
  refine r_iload_n (pc := 1) K dX8_cut_1 rfl ?_
  refine r_iload_n (pc := 2) K dX8_cut_2 rfl ?_
  refine v_int (pc := 3) (st := []) (As := [.int x1, .int x2]) (b := a0) (ci := 8) (q0 := (RX8, TX8, 29)) K E (fun _ e1 => M_X8_isWall K.2.2.2.2.2.2.1 _ _ _ _ _ e1) h dX8_cut_3 ce_X8_isWall cv_X8_isWall lk_RX8_151 rfl rfl rfl rfl (by decide) rfl rfl (Nat.le_of_ble_eq_true rfl) rfl rfl (by decide) (by decide) (fun x29 h29 h => ?_)
  refine r_if_eq (pc := 6) (tgt := 33) K dX8_cut_6 (by decide) h (fun h _ => ?_) (fun h _ => ?_)
  · exact r_weak (lv2 := [some (va_rf (some a0)), some (.int x1), some (.int x2), some (.int x3), none, none]) ⟨rfl, rfl, rfl, rfl, trivial⟩ ((B_X8_cut_b33 K hr E  _ _ _ _ _ h))
  · refine r_iload_n (pc := 9) K dX8_cut_9 rfl ?_
    refine r_iconst (pc := 10) (v := 0) K dX8_cut_10 (by decide) ?_
    refine r_aload_n (pc := 11) K dX8_cut_11 rfl ?_
    refine r_getR (pc := 12) K dX8_cut_12 fk_RX8_46 h (fun r30 h => ?_)
    refine r_iconst (pc := 15) (v := 4) K dX8_cut_15 (by decide) ?_
    refine r_iload_n (pc := 16) K dX8_cut_16 rfl ?_
    refine r_imul (pc := 17) K dX8_cut_17 ?_
    refine r_iload_n (pc := 18) K dX8_cut_18 rfl ?_
    refine r_iadd (pc := 19) K dX8_cut_19 ?_
    refine nn_k h (fun a31 hz hq31 => ?_)
    subst hz
    have h := hq31
    refine r_iald (pc := 20) K dX8_cut_20 h (fun x32 h => ?_)
    refine r_iconst (pc := 21) (v := 1) K dX8_cut_21 (by decide) ?_
    refine r_isub (pc := 22) K dX8_cut_22 ?_
    refine s_int (pc := 23) (st := []) (As := [.int x3, .int 0, .int (x32 - 1)]) K E (fun _ e1 => M_X8_is K.2.2.2.2.2.2.1 _ _ _ _ _ e1) h dX8_cut_23 ce_X8_is cs_X8_is lk_RX8_80 rfl rfl (by decide) rfl rfl (Nat.le_of_ble_eq_true rfl) rfl rfl (by decide) (by decide) (fun x33 h33 h => ?_)
    refine r_if_eq (pc := 26) (tgt := 33) K dX8_cut_26 (by decide) h (fun h _ => ?_) (fun h _ => ?_)
    · exact r_weak (lv2 := [some (va_rf (some a0)), some (.int x1), some (.int x2), some (.int x3), none, none]) ⟨rfl, rfl, rfl, rfl, trivial⟩ ((B_X8_cut_b33 K hr E  _ _ _ _ _ h))
    · refine r_iconst (pc := 29) (v := 1) K dX8_cut_29 (by decide) ?_
      refine r_goto (pc := 30) (tgt := 34) K dX8_cut_30 (by decide) ?_
      exact r_weak (lv2 := [some (va_rf (some a0)), some (.int x1), some (.int x2), some (.int x3), none, none]) ⟨rfl, rfl, rfl, rfl, trivial⟩ ((B_X8_cut_b34 K hr E  _ _ _ _ _ _ h))
def rm_X8_seen : Room := { frames := 3, cells := 0, slots := 0, locals := 64 }
set_option maxRecDepth 100000 in
set_option maxHeartbeats 4000000 in
theorem B_X8_seen_b32 (K : Cx strL D cA h0 p l s m args meth c cX8_seen RX8 10) (hr : meth.sig.returnType = (some .int)) (E : ∀ x ∈ c.exceptionTable.toList, False) {res : (Int32 ⊕ String) × hpT} : ∀ (x5 : Int32) (xs0 : Int32) (as1 : Nat) (hp : hpT), F_X8_seen_b32  x5 xs0 as1 hp = some res → G D cA h0 p l e rm_X8_seen s m args below meth c 10 (vx_MQ below (QI D cA h0 res) (XE D cA h0 res) args s 0 0 (Af h0)) 0 0 hp 32 [none, none, none, none, none, some (.int x5), none, none, none, none] [.int xs0, va_rf (some as1)] := by
  intro x5 xs0 as1 hp h
  unfold F_X8_seen_b32 at h
  refine v_int (pc := 32) (st := []) (As := [.int xs0]) (b := as1) (ci := 8) (q0 := (RX8, TX8, 29)) K E (fun _ e1 => M_X8_refused K.2.2.2.2.2.2.1 _ _ _ _ e1) h dX8_seen_32 ce_X8_refused cv_X8_refused lk_RX8_84 rfl rfl rfl rfl (by decide) rfl rfl (Nat.le_of_ble_eq_true rfl) rfl rfl (by decide) (by decide) (fun x21 h21 h => ?_)
  refine r_pop (pc := 35) K dX8_seen_35 rfl ?_
  refine r_iload (pc := 36) K dX8_seen_36 rfl ?_
  refine r_if_eq (pc := 38) (tgt := 45) K dX8_seen_38 (by decide) h (fun h _ => ?_) (fun h _ => ?_)
  · refine r_iconst (pc := 45) (v := 0) K dX8_seen_45 (by decide) ?_
    exact r_ireturn (pc := 46) K hr dX8_seen_46 h (by decide) (by decide)
  · refine r_iconst (pc := 41) (v := (-1)) K dX8_seen_41 (by decide) ?_
    refine r_goto (pc := 42) (tgt := 46) K dX8_seen_42 (by decide) ?_
    exact r_ireturn (pc := 46) K hr dX8_seen_46 h (by decide) (by decide)
set_option maxRecDepth 100000 in
set_option maxHeartbeats 4000000 in
theorem B_X8_seen_b21 (K : Cx strL D cA h0 p l s m args meth c cX8_seen RX8 10) (hr : meth.sig.returnType = (some .int)) (E : ∀ x ∈ c.exceptionTable.toList, False) {res : (Int32 ⊕ String) × hpT} : ∀ (a0 : Nat) (x5 : Int32) (hp : hpT), F_X8_seen_b21  a0 x5 hp = some res → G D cA h0 p l e rm_X8_seen s m args below meth c 10 (vx_MQ below (QI D cA h0 res) (XE D cA h0 res) args s 0 0 (Af h0)) 0 0 hp 21 [some (va_rf (some a0)), none, none, none, none, some (.int x5), none, none, none, none] [] := by
  intro a0 x5 hp h
  unfold F_X8_seen_b21 at h
  refine r_aload_n (pc := 21) K dX8_seen_21 rfl ?_
  refine r_iload (pc := 22) K dX8_seen_22 rfl ?_
  refine r_if_eq (pc := 24) (tgt := 31) K dX8_seen_24 (by decide) h (fun h _ => ?_) (fun h _ => ?_)
  · refine r_iconst (pc := 31) (v := 1) K dX8_seen_31 (by decide) ?_
    exact r_weak (lv2 := [none, none, none, none, none, some (.int x5), none, none, none, none]) ⟨rfl, trivial⟩ ((B_X8_seen_b32 K hr E  _ _ _ _ h))
  · refine r_iconst (pc := 27) (v := 0) K dX8_seen_27 (by decide) ?_
    refine r_goto (pc := 28) (tgt := 32) K dX8_seen_28 (by decide) ?_
    exact r_weak (lv2 := [none, none, none, none, none, some (.int x5), none, none, none, none]) ⟨rfl, trivial⟩ ((B_X8_seen_b32 K hr E  _ _ _ _ h))
set_option maxRecDepth 100000 in
set_option maxHeartbeats 4000000 in
theorem B_X8_seen_b124 (K : Cx strL D cA h0 p l s m args meth c cX8_seen RX8 10) (hr : meth.sig.returnType = (some .int)) (E : ∀ x ∈ c.exceptionTable.toList, False) {res : (Int32 ⊕ String) × hpT} : ∀ (a0 : Nat) (x3 : Int32) (x4 : Int32) (x6 : Int32) (x7 : Int32) (x8 : Int32) (xs0 : Int32) (as1 : Nat) (hp : hpT), F_X8_seen_b124  a0 x3 x4 x6 x7 x8 xs0 as1 hp = some res → G D cA h0 p l e rm_X8_seen s m args below meth c 10 (vx_MQ below (QI D cA h0 res) (XE D cA h0 res) args s 0 0 (Af h0)) 0 0 hp 124 [some (va_rf (some a0)), none, none, some (.int x3), some (.int x4), none, some (.int x6), some (.int x7), some (.int x8), none] [.int xs0, va_rf (some as1)] := by
  intro a0 x3 x4 x6 x7 x8 xs0 as1 hp h
  unfold F_X8_seen_b124 at h
  refine v_int (pc := 124) (st := []) (As := [.int xs0]) (b := as1) (ci := 8) (q0 := (RX8, TX8, 29)) K E (fun _ e1 => M_X8_refused K.2.2.2.2.2.2.1 _ _ _ _ e1) h dX8_seen_124 ce_X8_refused cv_X8_refused lk_RX8_84 rfl rfl rfl rfl (by decide) rfl rfl (Nat.le_of_ble_eq_true rfl) rfl rfl (by decide) (by decide) (fun x22 h22 h => ?_)
  refine r_if_eq (pc := 127) (tgt := 132) K dX8_seen_127 (by decide) h (fun h _ => ?_) (fun h _ => ?_)
  · refine r_aload_n (pc := 132) K dX8_seen_132 rfl ?_
    refine r_getR (pc := 133) K dX8_seen_133 fk_RX8_70 h (fun r23 h => ?_)
    refine r_bipush (pc := 136) (v := 24) K dX8_seen_136 (by decide) ?_
    refine r_iload (pc := 138) K dX8_seen_138 rfl ?_
    refine r_imul (pc := 140) K dX8_seen_140 ?_
    refine r_iload_n (pc := 141) K dX8_seen_141 rfl ?_
    refine r_iload (pc := 142) K dX8_seen_142 rfl ?_
    refine r_idiv (pc := 144) K dX8_seen_144 h (fun h => ?_)
    refine r_iadd (pc := 145) K dX8_seen_145 ?_
    refine nn_k h (fun a24 hz hq24 => ?_)
    subst hz
    have h := hq24
    refine r_iald (pc := 146) K dX8_seen_146 h (fun x25 h => ?_)
    refine r_iload (pc := 147) K dX8_seen_147 rfl ?_
    refine r_iadd (pc := 149) K dX8_seen_149 ?_
    refine r_istore (pc := 150) (lv' := [some (va_rf (some a0)), none, none, some (.int x3), some (.int x4), none, some (.int x6), some (.int x7), some (.int x8), some (.int (x25 + x4))]) K dX8_seen_150 (by decide) rfl ?_
    refine r_aload_n (pc := 152) K dX8_seen_152 rfl ?_
    refine r_getR (pc := 153) K dX8_seen_153 fk_RX8_28 h (fun r26 h => ?_)
    refine r_bipush (pc := 156) (v := 100) K dX8_seen_156 (by decide) ?_
    refine r_iload (pc := 158) K dX8_seen_158 rfl ?_
    refine r_imul (pc := 160) K dX8_seen_160 ?_
    refine r_bipush (pc := 161) (v := 10) K dX8_seen_161 (by decide) ?_
    refine r_iload (pc := 163) K dX8_seen_163 rfl ?_
    refine r_aload_n (pc := 165) K dX8_seen_165 rfl ?_
    refine r_aload_n (pc := 166) K dX8_seen_166 rfl ?_
    refine r_getR (pc := 167) K dX8_seen_167 fk_RX8_22 h (fun r27 h => ?_)
    refine r_iload (pc := 170) K dX8_seen_170 rfl ?_
    refine nn_k h (fun a28 hz hq28 => ?_)
    subst hz
    have h := hq28
    refine r_iald (pc := 172) K dX8_seen_172 h (fun x29 h => ?_)
    refine v_int (pc := 173) (st := [.int (x25 + x4), .int 10, .int (100 * x7), va_rf r26]) (As := [.int x29]) (b := a0) (ci := 8) (q0 := (RX8, TX8, 29)) K E (fun _ e1 => M_X8_rows K.2.2.2.2.2.2.1 _ _ _ _ e1) h dX8_seen_173 ce_X8_rows cv_X8_rows lk_RX8_99 rfl rfl rfl rfl (by decide) rfl rfl (mcat_le (cat_c rfl (cat_c rfl (cat_c rfl (cat_c (va_rf_cat _) (cat_n))))) (Nat.le_of_ble_eq_true rfl)) rfl rfl (by decide) (by decide) (fun x30 h30 h => ?_)
    refine r_irem (pc := 176) K dX8_seen_176 h (fun h => ?_)
    refine r_imul (pc := 177) K dX8_seen_177 ?_
    refine r_iadd (pc := 178) K dX8_seen_178 ?_
    refine r_iload_n (pc := 179) K dX8_seen_179 rfl ?_
    refine r_iload (pc := 180) K dX8_seen_180 rfl ?_
    refine r_irem (pc := 182) K dX8_seen_182 h (fun h => ?_)
    refine r_iadd (pc := 183) K dX8_seen_183 ?_
    refine nn_k h (fun a31 hz hq31 => ?_)
    subst hz
    have h := hq31
    refine r_iald (pc := 184) K dX8_seen_184 h (fun x32 h => ?_)
    exact r_ireturn (pc := 185) K hr dX8_seen_185 h (by decide) (by decide)
  · refine r_iconst (pc := 130) (v := 0) K dX8_seen_130 (by decide) ?_
    exact r_ireturn (pc := 131) K hr dX8_seen_131 h (by decide) (by decide)
set_option maxRecDepth 100000 in
set_option maxHeartbeats 4000000 in
theorem B_X8_seen_b123 (K : Cx strL D cA h0 p l s m args meth c cX8_seen RX8 10) (hr : meth.sig.returnType = (some .int)) (E : ∀ x ∈ c.exceptionTable.toList, False) {res : (Int32 ⊕ String) × hpT} : ∀ (a0 : Nat) (x3 : Int32) (x4 : Int32) (x6 : Int32) (x7 : Int32) (x8 : Int32) (as0 : Nat) (hp : hpT), F_X8_seen_b123  a0 x3 x4 x6 x7 x8 as0 hp = some res → G D cA h0 p l e rm_X8_seen s m args below meth c 10 (vx_MQ below (QI D cA h0 res) (XE D cA h0 res) args s 0 0 (Af h0)) 0 0 hp 123 [some (va_rf (some a0)), none, none, some (.int x3), some (.int x4), none, some (.int x6), some (.int x7), some (.int x8), none] [va_rf (some as0)] := by
  intro a0 x3 x4 x6 x7 x8 as0 hp h
  unfold F_X8_seen_b123 at h
  refine r_iconst (pc := 123) (v := 1) K dX8_seen_123 (by decide) ?_
  exact r_weak (lv2 := [some (va_rf (some a0)), none, none, some (.int x3), some (.int x4), none, some (.int x6), some (.int x7), some (.int x8), none]) ⟨rfl, rfl, rfl, rfl, rfl, rfl, trivial⟩ ((B_X8_seen_b124 K hr E  _ _ _ _ _ _ _ _ _ h))
set_option maxRecDepth 100000 in
set_option maxHeartbeats 4000000 in
theorem M_X8_seen {D : va_G} {cA : Nat → ClassId} {h0 : Nat} {l : Launch} (hl : l.stackTraces = false) (a0 : Nat) (x1 : Int32) (x2 : Int32) (x3 : Int32) (x4 : Int32) (hp : hpT) (res : (Int32 ⊕ String) × hpT) (h : F_X8_seen a0 x1 x2 x3 x4 hp = some res) : vx_Met l yX8_seen (wsm yX8_seen cX8_seen 10 (some .int)) rm_X8_seen (va_Pc [va_rf (some a0), .int x1, .int x2, .int x3, .int x4] (Pre strL D cA h0 hp)) (QI D cA h0 res) (XE D cA h0 res) 0 0 (Af h0) := by
  unfold F_X8_seen at h
  refine g_entry (by decide +kernel) hl (cat_c rfl (cat_c rfl (cat_c rfl (cat_c rfl (cat_c rfl (cat_n)))))) (Nat.le_of_ble_eq_true rfl) (lv := [some (va_rf (some a0)), some (.int x1), some (.int x2), some (.int x3), some (.int x4), none, none, none, none, none]) rfl ?_
  intro p e s m args below meth c K hr E hn
  have K : Cx strL D cA h0 p l s m args meth c cX8_seen RX8 10 := K
  refine r_aload_n (pc := 0) K dX8_seen_0 rfl ?_
  refine r_iload_n (pc := 1) K dX8_seen_1 rfl ?_
  refine r_iload_n (pc := 2) K dX8_seen_2 rfl ?_
  refine v_int (pc := 3) (st := []) (As := [.int x1, .int x2]) (b := a0) (ci := 8) (q0 := (RX8, TX8, 29)) K E (fun _ e1 => M_X8_isWall K.2.2.2.2.2.2.1 _ _ _ _ _ e1) h dX8_seen_3 ce_X8_isWall cv_X8_isWall lk_RX8_151 rfl rfl rfl rfl (by decide) rfl rfl (Nat.le_of_ble_eq_true rfl) rfl rfl (by decide) (by decide) (fun x33 h33 h => ?_)
  refine r_istore (pc := 6) (lv' := [some (va_rf (some a0)), some (.int x1), some (.int x2), some (.int x3), some (.int x4), some (.int x33), none, none, none, none]) K dX8_seen_6 (by decide) rfl ?_
  refine r_iload (pc := 8) K dX8_seen_8 rfl ?_
  refine r_if_eq (pc := 10) (tgt := 21) K dX8_seen_10 (by decide) h (fun h _ => ?_) (fun h _ => ?_)
  · exact r_weak (lv2 := [some (va_rf (some a0)), none, none, none, none, some (.int x33), none, none, none, none]) ⟨rfl, rfl, trivial⟩ ((B_X8_seen_b21 K hr E  _ _ _ h))
  · refine r_aload_n (pc := 13) K dX8_seen_13 rfl ?_
    refine r_iload_n (pc := 14) K dX8_seen_14 rfl ?_
    refine v_int (pc := 15) (st := []) (As := [.int x1]) (b := a0) (ci := 8) (q0 := (RX8, TX8, 29)) K E (fun _ e1 => M_X8_isHung K.2.2.2.2.2.2.1 _ _ _ _ e1) h dX8_seen_15 ce_X8_isHung cv_X8_isHung lk_RX8_121 rfl rfl rfl rfl (by decide) rfl rfl (Nat.le_of_ble_eq_true rfl) rfl rfl (by decide) (by decide) (fun x34 h34 h => ?_)
    refine r_if_ne (pc := 18) (tgt := 47) K dX8_seen_18 (by decide) h (fun h _ => ?_) (fun h _ => ?_)
    · refine r_iconst (pc := 47) (v := 4) K dX8_seen_47 (by decide) ?_
      refine r_iload_n (pc := 48) K dX8_seen_48 rfl ?_
      refine r_imul (pc := 49) K dX8_seen_49 ?_
      refine r_iload_n (pc := 50) K dX8_seen_50 rfl ?_
      refine r_iadd (pc := 51) K dX8_seen_51 ?_
      refine r_istore (pc := 52) (lv' := [some (va_rf (some a0)), some (.int x1), some (.int x2), some (.int x3), some (.int x4), some (.int x33), some (.int ((4 * x1) + x2)), none, none, none]) K dX8_seen_52 (by decide) rfl ?_
      refine r_aload_n (pc := 54) K dX8_seen_54 rfl ?_
      refine r_getR (pc := 55) K dX8_seen_55 fk_RX8_31 h (fun r35 h => ?_)
      refine r_aload_n (pc := 58) K dX8_seen_58 rfl ?_
      refine r_getR (pc := 59) K dX8_seen_59 fk_RX8_52 h (fun r36 h => ?_)
      refine r_iload_n (pc := 62) K dX8_seen_62 rfl ?_
      refine nn_k h (fun a37 hz hq37 => ?_)
      subst hz
      have h := hq37
      refine r_iald (pc := 63) K dX8_seen_63 h (fun x38 h => ?_)
      refine nn_k h (fun a39 hz hq39 => ?_)
      subst hz
      have h := hq39
      refine r_iald (pc := 64) K dX8_seen_64 h (fun x40 h => ?_)
      refine r_istore (pc := 65) (lv' := [some (va_rf (some a0)), some (.int x1), some (.int x2), some (.int x3), some (.int x4), some (.int x33), some (.int ((4 * x1) + x2)), some (.int x40), none, none]) K dX8_seen_65 (by decide) rfl ?_
      refine r_aload_n (pc := 67) K dX8_seen_67 rfl ?_
      refine r_aload_n (pc := 68) K dX8_seen_68 rfl ?_
      refine r_getR (pc := 69) K dX8_seen_69 fk_RX8_22 h (fun r41 h => ?_)
      refine r_iload (pc := 72) K dX8_seen_72 rfl ?_
      refine nn_k h (fun a42 hz hq42 => ?_)
      subst hz
      have h := hq42
      refine r_iald (pc := 74) K dX8_seen_74 h (fun x43 h => ?_)
      refine v_int (pc := 75) (st := []) (As := [.int x43]) (b := a0) (ci := 8) (q0 := (RX8, TX8, 29)) K E (fun _ e1 => M_X8_columns K.2.2.2.2.2.2.1 _ _ _ _ e1) h dX8_seen_75 ce_X8_columns cv_X8_columns lk_RX8_91 rfl rfl rfl rfl (by decide) rfl rfl (Nat.le_of_ble_eq_true rfl) rfl rfl (by decide) (by decide) (fun x44 h44 h => ?_)
      refine r_istore (pc := 78) (lv' := [some (va_rf (some a0)), some (.int x1), some (.int x2), some (.int x3), some (.int x4), some (.int x33), some (.int ((4 * x1) + x2)), some (.int x40), some (.int x44), none]) K dX8_seen_78 (by decide) rfl ?_
      refine r_aload_n (pc := 80) K dX8_seen_80 rfl ?_
      refine r_iload_n (pc := 81) K dX8_seen_81 rfl ?_
      refine r_iconst (pc := 82) (v := 0) K dX8_seen_82 (by decide) ?_
      refine r_aload_n (pc := 83) K dX8_seen_83 rfl ?_
      refine r_getR (pc := 84) K dX8_seen_84 fk_RX8_46 h (fun r45 h => ?_)
      refine r_iload (pc := 87) K dX8_seen_87 rfl ?_
      refine nn_k h (fun a46 hz hq46 => ?_)
      subst hz
      have h := hq46
      refine r_iald (pc := 89) K dX8_seen_89 h (fun x47 h => ?_)
      refine r_iload (pc := 90) K dX8_seen_90 rfl ?_
      refine r_imul (pc := 92) K dX8_seen_92 ?_
      refine r_iconst (pc := 93) (v := 1) K dX8_seen_93 (by decide) ?_
      refine r_isub (pc := 94) K dX8_seen_94 ?_
      refine s_int (pc := 95) (st := [va_rf (some a0)]) (As := [.int x3, .int 0, .int ((x47 * x44) - 1)]) K E (fun _ e1 => M_X8_is K.2.2.2.2.2.2.1 _ _ _ _ _ e1) h dX8_seen_95 ce_X8_is cs_X8_is lk_RX8_80 rfl rfl (by decide) rfl rfl (Nat.le_of_ble_eq_true rfl) rfl rfl (by decide) (by decide) (fun x48 h48 h => ?_)
      refine r_if_eq (pc := 98) (tgt := 123) K dX8_seen_98 (by decide) h (fun h _ => ?_) (fun h _ => ?_)
      · exact r_weak (lv2 := [some (va_rf (some a0)), none, none, some (.int x3), some (.int x4), none, some (.int ((4 * x1) + x2)), some (.int x40), some (.int x44), none]) ⟨rfl, rfl, rfl, rfl, rfl, rfl, trivial⟩ ((B_X8_seen_b123 K hr E  _ _ _ _ _ _ _ _ h))
      · refine r_iload (pc := 101) K dX8_seen_101 rfl ?_
        refine r_iconst (pc := 103) (v := 0) K dX8_seen_103 (by decide) ?_
        refine r_aload_n (pc := 104) K dX8_seen_104 rfl ?_
        refine r_getR (pc := 105) K dX8_seen_105 fk_RX8_49 h (fun r49 h => ?_)
        refine r_iload (pc := 108) K dX8_seen_108 rfl ?_
        refine nn_k h (fun a50 hz hq50 => ?_)
        subst hz
        have h := hq50
        refine r_iald (pc := 110) K dX8_seen_110 h (fun x51 h => ?_)
        refine r_iconst (pc := 111) (v := 1) K dX8_seen_111 (by decide) ?_
        refine r_isub (pc := 112) K dX8_seen_112 ?_
        refine s_int (pc := 113) (st := [va_rf (some a0)]) (As := [.int x4, .int 0, .int (x51 - 1)]) K E (fun _ e1 => M_X8_is K.2.2.2.2.2.2.1 _ _ _ _ _ e1) h dX8_seen_113 ce_X8_is cs_X8_is lk_RX8_80 rfl rfl (by decide) rfl rfl (Nat.le_of_ble_eq_true rfl) rfl rfl (by decide) (by decide) (fun x52 h52 h => ?_)
        refine r_if_eq (pc := 116) (tgt := 123) K dX8_seen_116 (by decide) h (fun h _ => ?_) (fun h _ => ?_)
        · exact r_weak (lv2 := [some (va_rf (some a0)), none, none, some (.int x3), some (.int x4), none, some (.int ((4 * x1) + x2)), some (.int x40), some (.int x44), none]) ⟨rfl, rfl, rfl, rfl, rfl, rfl, trivial⟩ ((B_X8_seen_b123 K hr E  _ _ _ _ _ _ _ _ h))
        · refine r_iconst (pc := 119) (v := 0) K dX8_seen_119 (by decide) ?_
          refine r_goto (pc := 120) (tgt := 124) K dX8_seen_120 (by decide) ?_
          exact r_weak (lv2 := [some (va_rf (some a0)), none, none, some (.int x3), some (.int x4), none, some (.int ((4 * x1) + x2)), some (.int x40), some (.int x44), none]) ⟨rfl, rfl, rfl, rfl, rfl, rfl, trivial⟩ ((B_X8_seen_b124 K hr E  _ _ _ _ _ _ _ _ _ h))
    · exact r_weak (lv2 := [some (va_rf (some a0)), none, none, none, none, some (.int x33), none, none, none, none]) ⟨rfl, rfl, trivial⟩ ((B_X8_seen_b21 K hr E  _ _ _ h))
def rm_X8_lost : Room := { frames := 0, cells := 0, slots := 0, locals := 0 }
set_option maxRecDepth 100000 in
set_option maxHeartbeats 4000000 in
theorem M_X8_lost {D : va_G} {cA : Nat → ClassId} {h0 : Nat} {l : Launch} (hl : l.stackTraces = false) (a0 : Nat) (hp : hpT) (res : (Int32 ⊕ String) × hpT) (h : F_X8_lost a0 hp = some res) : vx_Met l yX8_lost (wsm yX8_lost cX8_lost 1 (some .int)) rm_X8_lost (va_Pc [va_rf (some a0)] (Pre strL D cA h0 hp)) (QI D cA h0 res) (XE D cA h0 res) 0 0 (Af h0) := by
  unfold F_X8_lost at h
  refine g_entry (by decide +kernel) hl (cat_c rfl (cat_n)) (Nat.le_of_ble_eq_true rfl) (lv := [some (va_rf (some a0))]) rfl ?_
  intro p e s m args below meth c K hr E hn
  have K : Cx strL D cA h0 p l s m args meth c cX8_lost RX8 1 := K
  refine r_aload_n (pc := 0) K dX8_lost_0 rfl ?_
  refine r_iconst (pc := 1) (v := 0) K dX8_lost_1 (by decide) ?_
  refine r_put (pc := 2) K dX8_lost_2 fk_RX8_73 fn_8_0 rfl rfl h (fun h21 h => ?_)
  refine r_aload_n (pc := 5) K dX8_lost_5 rfl ?_
  refine r_getI (pc := 6) K dX8_lost_6 fk_RX8_148 h (fun x22 h => ?_)
  exact r_ireturn (pc := 9) K hr dX8_lost_9 h (by decide) (by decide)
end
