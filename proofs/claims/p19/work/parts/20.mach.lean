/-! the machine does what the functions say: X2_init X5_init X7_init X7_requireWithin X0_init X3_init X7_pattern X7_patternAt X0_holds X7_wrapped X0_place X0_colourAt X0_put X7_paint X3_flipsColumns X3_flipsRows X3_colourAt X7_colour X7_repeat X3_staysWhenMoved X3_leastMove X7_repeatAnew X3_drawn X4_init X7_roller X7_rollerAt X1_init X7_lot X7_lotAt X1_roundsOfARoll X7_lotOf X7_roomAt X5_isHung X6_init X5_addWall X7_wall X2_beginAnew -/
section
variable {D : va_G} {cA : Nat → ClassId} {h0 : Nat} {p : Program} {l : Launch} {e : Env} {s : State} {m : MethodId} {args : Array Value} {below : List Frame} {meth : Method} {c : Code}
def rm_X2_init : Room := { frames := 1, cells := 1, slots := 20, locals := 20 }
set_option maxRecDepth 100000 in
set_option maxHeartbeats 4000000 in
theorem M_X2_init {D : va_G} {cA : Nat → ClassId} {h0 : Nat} {l : Launch} (hl : l.stackTraces = false) (a0 : Nat) (hp : hpT) (res : (Unit ⊕ String) × hpT) (h : F_X2_init a0 hp = some res) : vx_Met l yX2_init (wsm yX2_init cX2_init 1 none) rm_X2_init (va_Pc [va_rf (some a0)] (Pre strL D cA h0 hp)) (QV D cA h0 res) (XE D cA h0 res) 1 20 (Af h0) := by
  unfold F_X2_init at h
  refine g_entry (by decide +kernel) hl (cat_c rfl (cat_n)) (Nat.le_of_ble_eq_true rfl) (lv := [some (va_rf (some a0))]) rfl ?_
  intro p e s m args below meth c K hr E hn
  have K : Cx strL D cA h0 p l s m args meth c cX2_init RX2 1 := K
  refine r_aload_n (pc := 0) K dX2_init_0 rfl ?_
  refine r_objInit (pc := 1) K dX2_init_1 oi_RX2_3 oi_i oi_c (Nat.le_of_ble_eq_true rfl) (Nat.le_of_ble_eq_true rfl) ?_
  refine r_aload_n (pc := 4) K dX2_init_4 rfl ?_
  refine r_bipush (pc := 5) (v := 20) K dX2_init_5 (by decide) ?_
  refine r_newI (pc := 7) (N := 20) K dX2_init_7 ac_int (by decide) (by decide) (by decide) (by decide) (by decide) h (fun a21 h21 h => ?_)
  refine r_putF (pc := 9) K hn dX2_init_9 fk_RX2_9 ff_2_0 rfl rfl h (fun h22 h => ?_)
  exact r_vreturn (pc := 12) K hr dX2_init_12 h (by decide) (by decide)
def rm_X5_init : Room := { frames := 2, cells := 3, slots := 30, locals := 40 }
set_option maxRecDepth 100000 in
set_option maxHeartbeats 4000000 in
theorem M_X5_init {D : va_G} {cA : Nat → ClassId} {h0 : Nat} {l : Launch} (hl : l.stackTraces = false) (a0 : Nat) (hp : hpT) (res : (Unit ⊕ String) × hpT) (h : F_X5_init a0 hp = some res) : vx_Met l yX5_init (wsm yX5_init cX5_init 1 none) rm_X5_init (va_Pc [va_rf (some a0)] (Pre strL D cA h0 hp)) (QV D cA h0 res) (XE D cA h0 res) 3 30 (Af h0) := by
  unfold F_X5_init at h
  refine g_entry (by decide +kernel) hl (cat_c rfl (cat_n)) (Nat.le_of_ble_eq_true rfl) (lv := [some (va_rf (some a0))]) rfl ?_
  intro p e s m args below meth c K hr E hn
  have K : Cx strL D cA h0 p l s m args meth c cX5_init RX5 1 := K
  refine r_aload_n (pc := 0) K dX5_init_0 rfl ?_
  refine r_objInit (pc := 1) K dX5_init_1 oi_RX5_3 oi_i oi_c (Nat.le_of_ble_eq_true rfl) (Nat.le_of_ble_eq_true rfl) ?_
  refine r_aload_n (pc := 4) K dX5_init_4 rfl ?_
  refine r_iconst (pc := 5) (v := 4) K dX5_init_5 (by decide) ?_
  refine r_newR (pc := 6) (N := 4) (k0 := 6) (C := RX6) K dX5_init_6 rfl (by decide) cl_RX5_9 (by decide) (by decide) (by decide) (by decide) (by decide) h (fun a21 h21 h => ?_)
  refine r_putF (pc := 9) K hn dX5_init_9 fk_RX5_11 ff_5_0 rfl rfl h (fun h22 h => ?_)
  refine r_aload_n (pc := 12) K dX5_init_12 rfl ?_
  refine r_new (pc := 13) K dX5_init_13 cl_RX5_17 nw_2 (by decide) (by decide) h (fun a23 h23 h => ?_)
  refine r_dup (pc := 16) K dX5_init_16 rfl ?_
  refine i_void (pc := 17) (st := [va_rf (some a23), va_rf (some a0)]) (As := []) (b := a23) K E (fun _ e1 => M_X2_init K.2.2.2.2.2.2.1 _ _ _ e1) h dX5_init_17 ce_X2_init ci_X2_init lk_RX5_19 rfl rfl (by decide) rfl rfl (Nat.le_of_ble_eq_true rfl) rfl rfl (by decide) (by decide) (fun _ h24 h => ?_)
  refine r_putF (pc := 20) K hn dX5_init_20 fk_RX5_20 ff_5_1 rfl rfl h (fun h25 h => ?_)
  exact r_vreturn (pc := 23) K hr dX5_init_23 h (by decide) (by decide)
def rm_X7_init : Room := { frames := 3, cells := 32, slots := 273, locals := 60 }
set_option maxRecDepth 100000 in
set_option maxHeartbeats 4000000 in
theorem B_X7_init_b41 (K : Cx strL D cA h0 p l s m args meth c cX7_init RX7 2) (hr : meth.sig.returnType = none) (E : ∀ x ∈ c.exceptionTable.toList, False) (hn : meth.name = "<init>") {res : (Unit ⊕ String) × hpT} : ∀ (n : Nat) (a0 : Nat) (x1 : Int32) (hp : hpT), n ≤ 6 → F_X7_init_b41  n a0 x1 hp = some res → G D cA h0 p l e rm_X7_init s m args below meth c 2 (vx_MQ below (QV D cA h0 res) (XE D cA h0 res) args s 32 273 (Af h0)) (4 + (6 - n) * 4) (28 + (6 - n) * 35) hp 41 [some (va_rf (some a0)), some (.int x1)] [] := by
  intro n
  induction n with
  | zero => intro a0 x1 hp hf h; cases h
  | succ n ih =>
    intro a0 x1 hp hf h
    rw [F_X7_init_b41] at h
    refine r_iload_n (pc := 41) K dX7_init_41 rfl ?_
    refine r_aload_n (pc := 42) K dX7_init_42 rfl ?_
    refine r_getR (pc := 43) K dX7_init_43 fk_RX7_29 h (fun r21 h => ?_)
    refine nn_k h (fun a22 hz hq22 => ?_)
    subst hz
    have h := hq22
    refine r_alen (pc := 46) K dX7_init_46 h (fun x23 h => ?_)
    refine r_icmp_ge (pc := 47) (tgt := 69) K dX7_init_47 (by decide) h (fun h _ => ?_) (fun h _ => ?_)
    · exact r_vreturn (pc := 69) K hr dX7_init_69 h (by (try simp only [rm_X7_init]); omega) (by (try simp only [rm_X7_init]); omega)
    · refine r_aload_n (pc := 50) K dX7_init_50 rfl ?_
      refine r_getR (pc := 51) K dX7_init_51 fk_RX7_29 h (fun r24 h => ?_)
      refine r_iload_n (pc := 54) K dX7_init_54 rfl ?_
      refine r_new (pc := 55) K dX7_init_55 cl_RX7_27 nw_5 (by (try simp only [rm_X7_init]); omega) (by (try simp only [rm_X7_init]); omega) h (fun a25 h25 h => ?_)
      refine r_dup (pc := 58) K dX7_init_58 rfl ?_
      refine i_void (pc := 59) (st := [va_rf (some a25), .int x1, va_rf r24]) (As := []) (b := a25) K E (fun _ e1 => M_X5_init K.2.2.2.2.2.2.1 _ _ _ e1) h dX7_init_59 ce_X5_init ci_X5_init lk_RX7_33 rfl rfl (by decide) rfl rfl (mcat_le (cat_c rfl (cat_c rfl (cat_c (va_rf_cat _) (cat_n)))) (Nat.le_of_ble_eq_true rfl)) rfl rfl (by (try simp only [rm_X7_init]); omega) (by (try simp only [rm_X7_init]); omega) (fun _ h26 h => ?_)
      refine nn_k h (fun a27 hz hq27 => ?_)
      subst hz
      have h := hq27
      refine r_aast (pc := 62) K dX7_init_62 (k0 := 5) (ci := 5) (q0 := (RX5, TX5, 5)) rfl rfl h (fun h28 h => ?_)
      refine r_iinc (pc := 63) (v := (x1 + 1)) (lv' := [some (va_rf (some a0)), some (.int (x1 + 1))]) K dX7_init_63 rfl rfl (by decide) rfl ?_
      refine r_goto (pc := 66) (tgt := 41) K dX7_init_66 (by decide) ?_
      exact r_weak (lv2 := [some (va_rf (some a0)), some (.int (x1 + 1))]) ⟨rfl, rfl, trivial⟩ (r_widen (by omega) (by omega) (ih _ _ _ (by omega) h))
set_option maxRecDepth 100000 in
set_option maxHeartbeats 4000000 in
theorem M_X7_init {D : va_G} {cA : Nat → ClassId} {h0 : Nat} {l : Launch} (hl : l.stackTraces = false) (a0 : Nat) (hp : hpT) (res : (Unit ⊕ String) × hpT) (h : F_X7_init a0 hp = some res) : vx_Met l yX7_init (wsm yX7_init cX7_init 2 none) rm_X7_init (va_Pc [va_rf (some a0)] (Pre strL D cA h0 hp)) (QV D cA h0 res) (XE D cA h0 res) 32 273 (Af h0) := by
  unfold F_X7_init at h
  refine g_entry (by decide +kernel) hl (cat_c rfl (cat_n)) (Nat.le_of_ble_eq_true rfl) (lv := [some (va_rf (some a0)), none]) rfl ?_
  intro p e s m args below meth c K hr E hn
  have K : Cx strL D cA h0 p l s m args meth c cX7_init RX7 2 := K
  refine r_aload_n (pc := 0) K dX7_init_0 rfl ?_
  refine r_objInit (pc := 1) K dX7_init_1 oi_RX7_3 oi_i oi_c (Nat.le_of_ble_eq_true rfl) (Nat.le_of_ble_eq_true rfl) ?_
  refine r_aload_n (pc := 4) K dX7_init_4 rfl ?_
  refine r_bipush (pc := 5) (v := 6) K dX7_init_5 (by decide) ?_
  refine r_newR (pc := 7) (N := 6) (k0 := 2) (C := RX3) K dX7_init_7 rfl (by decide) cl_RX7_9 (by decide) (by decide) (by decide) (by decide) (by decide) h (fun a29 h29 h => ?_)
  refine r_putF (pc := 10) K hn dX7_init_10 fk_RX7_11 ff_7_0 rfl rfl h (fun h30 h => ?_)
  refine r_aload_n (pc := 13) K dX7_init_13 rfl ?_
  refine r_bipush (pc := 14) (v := 8) K dX7_init_14 (by decide) ?_
  refine r_newR (pc := 16) (N := 8) (k0 := 3) (C := RX4) K dX7_init_16 rfl (by decide) cl_RX7_15 (by decide) (by decide) (by decide) (by decide) (by decide) h (fun a31 h31 h => ?_)
  refine r_putF (pc := 19) K hn dX7_init_19 fk_RX7_17 ff_7_2 rfl rfl h (fun h32 h => ?_)
  refine r_aload_n (pc := 22) K dX7_init_22 rfl ?_
  refine r_bipush (pc := 23) (v := 10) K dX7_init_23 (by decide) ?_
  refine r_newR (pc := 25) (N := 10) (k0 := 4) (C := RX1) K dX7_init_25 rfl (by decide) cl_RX7_21 (by decide) (by decide) (by decide) (by decide) (by decide) h (fun a33 h33 h => ?_)
  refine r_putF (pc := 28) K hn dX7_init_28 fk_RX7_23 ff_7_4 rfl rfl h (fun h34 h => ?_)
  refine r_aload_n (pc := 31) K dX7_init_31 rfl ?_
  refine r_iconst (pc := 32) (v := 4) K dX7_init_32 (by decide) ?_
  refine r_newR (pc := 33) (N := 4) (k0 := 5) (C := RX5) K dX7_init_33 rfl (by decide) cl_RX7_27 (by decide) (by decide) (by decide) (by decide) (by decide) h (fun a35 h35 h => ?_)
  refine r_putF (pc := 36) K hn dX7_init_36 fk_RX7_29 ff_7_6 rfl rfl h (fun h36 h => ?_)
  refine r_iconst (pc := 39) (v := 0) K dX7_init_39 (by decide) ?_
  refine r_istore_n (pc := 40) (lv' := [some (va_rf (some a0)), some (.int 0)]) K dX7_init_40 (by decide) rfl ?_
  exact r_weak (lv2 := [some (va_rf (some a0)), some (.int 0)]) ⟨rfl, rfl, trivial⟩ (r_widen (by omega) (by omega) (B_X7_init_b41 K hr E hn 6 _ _ _ (Nat.le_refl _) h))
def rm_X7_requireWithin : Room := { frames := 6, cells := 1, slots := 6, locals := 90 }
set_option maxRecDepth 100000 in
set_option maxHeartbeats 4000000 in
theorem B_X7_requireWithin_b10 (K : Cx strL D cA h0 p l s m args meth c cX7_requireWithin RX7 3) (hr : meth.sig.returnType = none) (E : ∀ x ∈ c.exceptionTable.toList, False) {res : (Unit ⊕ String) × hpT} : ∀ (hp : hpT), F_X7_requireWithin_b10   hp = some res → G D cA h0 p l e rm_X7_requireWithin s m args below meth c 3 (vx_MQ below (QV D cA h0 res) (XE D cA h0 res) args s 1 6 (Af h0)) 0 0 hp 10 [none, none, none] [] := by
  intro  hp h
  unfold F_X7_requireWithin_b10 at h
  exact r_throwW (pc := 10) K E dX7_requireWithin_10 dX7_requireWithin_13 dX7_requireWithin_14 dX7_requireWithin_17 dX7_requireWithin_20 th_RX7_38_42 st_RX7_263 h (Nat.le_of_ble_eq_true rfl) (Nat.le_of_ble_eq_true rfl) (by decide) (by decide) (by decide) (by decide)
set_option maxRecDepth 100000 in
set_option maxHeartbeats 4000000 in
theorem M_X7_requireWithin {D : va_G} {cA : Nat → ClassId} {h0 : Nat} {l : Launch} (hl : l.stackTraces = false) (x0 : Int32) (x1 : Int32) (x2 : Int32) (hp : hpT) (res : (Unit ⊕ String) × hpT) (h : F_X7_requireWithin x0 x1 x2 hp = some res) : vx_Met l yX7_requireWithin (wsm yX7_requireWithin cX7_requireWithin 3 none) rm_X7_requireWithin (va_Pc [.int x0, .int x1, .int x2] (Pre strL D cA h0 hp)) (QV D cA h0 res) (XE D cA h0 res) 1 6 (Af h0) := by
  unfold F_X7_requireWithin at h
  refine g_entry (by decide +kernel) hl (cat_c rfl (cat_c rfl (cat_c rfl (cat_n)))) (Nat.le_of_ble_eq_true rfl) (lv := [some (.int x0), some (.int x1), some (.int x2)]) rfl ?_
  intro p e s m args below meth c K hr E hn
  have K : Cx strL D cA h0 p l s m args meth c cX7_requireWithin RX7 3 := K
  refine r_iload_n (pc := 0) K dX7_requireWithin_0 rfl ?_
  refine r_iload_n (pc := 1) K dX7_requireWithin_1 rfl ?_
  refine r_icmp_lt (pc := 2) (tgt := 10) K dX7_requireWithin_2 (by decide) h (fun h _ => ?_) (fun h _ => ?_)
  · exact r_weak (lv2 := [none, none, none]) trivial (r_widen (by decide) (by decide) (B_X7_requireWithin_b10 K hr E   _ h))
  · refine r_iload_n (pc := 5) K dX7_requireWithin_5 rfl ?_
    refine r_iload_n (pc := 6) K dX7_requireWithin_6 rfl ?_
    refine r_icmp_le (pc := 7) (tgt := 21) K dX7_requireWithin_7 (by decide) h (fun h _ => ?_) (fun h _ => ?_)
    · exact r_vreturn (pc := 21) K hr dX7_requireWithin_21 h (by decide) (by decide)
    · exact r_weak (lv2 := [none, none, none]) trivial (r_widen (by decide) (by decide) (B_X7_requireWithin_b10 K hr E   _ h))
def rm_X0_init : Room := { frames := 1, cells := 1, slots := 100, locals := 20 }
set_option maxRecDepth 100000 in
set_option maxHeartbeats 4000000 in
theorem M_X0_init {D : va_G} {cA : Nat → ClassId} {h0 : Nat} {l : Launch} (hl : l.stackTraces = false) (a0 : Nat) (x1 : Int32) (x2 : Int32) (hp : hpT) (res : (Unit ⊕ String) × hpT) (h : F_X0_init a0 x1 x2 hp = some res) : vx_Met l yX0_init (wsm yX0_init cX0_init 3 none) rm_X0_init (va_Pc [va_rf (some a0), .int x1, .int x2] (Pre strL D cA h0 hp)) (QV D cA h0 res) (XE D cA h0 res) 1 100 (Af h0) := by
  unfold F_X0_init at h
  refine g_entry (by decide +kernel) hl (cat_c rfl (cat_c rfl (cat_c rfl (cat_n)))) (Nat.le_of_ble_eq_true rfl) (lv := [some (va_rf (some a0)), some (.int x1), some (.int x2)]) rfl ?_
  intro p e s m args below meth c K hr E hn
  have K : Cx strL D cA h0 p l s m args meth c cX0_init RX0 3 := K
  refine r_aload_n (pc := 0) K dX0_init_0 rfl ?_
  refine r_objInit (pc := 1) K dX0_init_1 oi_RX0_3 oi_i oi_c (Nat.le_of_ble_eq_true rfl) (Nat.le_of_ble_eq_true rfl) ?_
  refine r_aload_n (pc := 4) K dX0_init_4 rfl ?_
  refine r_bipush (pc := 5) (v := 100) K dX0_init_5 (by decide) ?_
  refine r_newI (pc := 7) (N := 100) K dX0_init_7 ac_int (by decide) (by decide) (by decide) (by decide) (by decide) h (fun a21 h21 h => ?_)
  refine r_putF (pc := 9) K hn dX0_init_9 fk_RX0_9 ff_0_2 rfl rfl h (fun h22 h => ?_)
  refine r_aload_n (pc := 12) K dX0_init_12 rfl ?_
  refine r_iload_n (pc := 13) K dX0_init_13 rfl ?_
  refine r_putF (pc := 14) K hn dX0_init_14 fk_RX0_15 ff_0_0 rfl rfl h (fun h23 h => ?_)
  refine r_aload_n (pc := 17) K dX0_init_17 rfl ?_
  refine r_iload_n (pc := 18) K dX0_init_18 rfl ?_
  refine r_putF (pc := 19) K hn dX0_init_19 fk_RX0_19 ff_0_1 rfl rfl h (fun h24 h => ?_)
  exact r_vreturn (pc := 22) K hr dX0_init_22 h (by decide) (by decide)
def rm_X3_init : Room := { frames := 2, cells := 2, slots := 103, locals := 42 }
set_option maxRecDepth 100000 in
set_option maxHeartbeats 4000000 in
theorem B_X3_init_b72 (K : Cx strL D cA h0 p l s m args meth c cX3_init RX3 6) (hr : meth.sig.returnType = none) (E : ∀ x ∈ c.exceptionTable.toList, False) (hn : meth.name = "<init>") {res : (Unit ⊕ String) × hpT} : ∀ (a0 : Nat) (x2 : Int32) (x5 : Int32) (xs0 : Int32) (as1 : Nat) (hp : hpT), F_X3_init_b72  a0 x2 x5 xs0 as1 hp = some res → G D cA h0 p l e rm_X3_init s m args below meth c 6 (vx_MQ below (QV D cA h0 res) (XE D cA h0 res) args s 2 103 (Af h0)) 2 103 hp 72 [some (va_rf (some a0)), none, some (.int x2), none, none, some (.int x5)] [.int xs0, va_rf (some as1)] := by
  intro a0 x2 x5 xs0 as1 hp h
  unfold F_X3_init_b72 at h
  refine r_putF (pc := 72) K hn dX3_init_72 fk_RX3_24 ff_3_2 rfl rfl h (fun h21 h => ?_)
  refine r_aload_n (pc := 75) K dX3_init_75 rfl ?_
  refine r_iload (pc := 76) K dX3_init_76 rfl ?_
  refine r_if_eq (pc := 78) (tgt := 85) K dX3_init_78 (by decide) h (fun h _ => ?_) (fun h _ => ?_)
  · refine r_iconst (pc := 85) (v := 2) K dX3_init_85 (by decide) ?_
    refine r_iload_n (pc := 86) K dX3_init_86 rfl ?_
    refine r_imul (pc := 87) K dX3_init_87 ?_
    refine r_putF (pc := 88) K hn dX3_init_88 fk_RX3_27 ff_3_3 rfl rfl h (fun h22 h => ?_)
    exact r_vreturn (pc := 91) K hr dX3_init_91 h (by decide) (by decide)
  · refine r_iload_n (pc := 81) K dX3_init_81 rfl ?_
    refine r_goto (pc := 82) (tgt := 88) K dX3_init_82 (by decide) ?_
    refine r_putF (pc := 88) K hn dX3_init_88 fk_RX3_27 ff_3_3 rfl rfl h (fun h23 h => ?_)
    exact r_vreturn (pc := 91) K hr dX3_init_91 h (by decide) (by decide)
set_option maxRecDepth 100000 in
set_option maxHeartbeats 4000000 in
theorem B_X3_init_b57 (K : Cx strL D cA h0 p l s m args meth c cX3_init RX3 6) (hr : meth.sig.returnType = none) (E : ∀ x ∈ c.exceptionTable.toList, False) (hn : meth.name = "<init>") {res : (Unit ⊕ String) × hpT} : ∀ (a0 : Nat) (x1 : Int32) (x2 : Int32) (x4 : Int32) (xs0 : Int32) (hp : hpT), F_X3_init_b57  a0 x1 x2 x4 xs0 hp = some res → G D cA h0 p l e rm_X3_init s m args below meth c 6 (vx_MQ below (QV D cA h0 res) (XE D cA h0 res) args s 2 103 (Af h0)) 2 103 hp 57 [some (va_rf (some a0)), some (.int x1), some (.int x2), none, some (.int x4), none] [.int xs0] := by
  intro a0 x1 x2 x4 xs0 hp h
  unfold F_X3_init_b57 at h
  refine r_istore (pc := 57) (lv' := [some (va_rf (some a0)), some (.int x1), some (.int x2), none, some (.int x4), some (.int xs0)]) K dX3_init_57 (by decide) rfl ?_
  refine r_aload_n (pc := 59) K dX3_init_59 rfl ?_
  refine r_iload (pc := 60) K dX3_init_60 rfl ?_
  refine r_if_eq (pc := 62) (tgt := 69) K dX3_init_62 (by decide) h (fun h _ => ?_) (fun h _ => ?_)
  · refine r_iconst (pc := 69) (v := 2) K dX3_init_69 (by decide) ?_
    refine r_iload_n (pc := 70) K dX3_init_70 rfl ?_
    refine r_imul (pc := 71) K dX3_init_71 ?_
    exact r_weak (lv2 := [some (va_rf (some a0)), none, some (.int x2), none, none, some (.int xs0)]) ⟨rfl, rfl, rfl, trivial⟩ (r_widen (by decide) (by decide) (B_X3_init_b72 K hr E hn  _ _ _ _ _ _ h))
  · refine r_iload_n (pc := 65) K dX3_init_65 rfl ?_
    refine r_goto (pc := 66) (tgt := 72) K dX3_init_66 (by decide) ?_
    exact r_weak (lv2 := [some (va_rf (some a0)), none, some (.int x2), none, none, some (.int xs0)]) ⟨rfl, rfl, rfl, trivial⟩ (r_widen (by decide) (by decide) (B_X3_init_b72 K hr E hn  _ _ _ _ _ _ h))
set_option maxRecDepth 100000 in
set_option maxHeartbeats 4000000 in
theorem B_X3_init_b52 (K : Cx strL D cA h0 p l s m args meth c cX3_init RX3 6) (hr : meth.sig.returnType = none) (E : ∀ x ∈ c.exceptionTable.toList, False) (hn : meth.name = "<init>") {res : (Unit ⊕ String) × hpT} : ∀ (a0 : Nat) (x1 : Int32) (x2 : Int32) (x4 : Int32) (hp : hpT), F_X3_init_b52  a0 x1 x2 x4 hp = some res → G D cA h0 p l e rm_X3_init s m args below meth c 6 (vx_MQ below (QV D cA h0 res) (XE D cA h0 res) args s 2 103 (Af h0)) 2 103 hp 52 [some (va_rf (some a0)), some (.int x1), some (.int x2), none, some (.int x4), none] [] := by
  intro a0 x1 x2 x4 hp h
  unfold F_X3_init_b52 at h
  refine r_iconst (pc := 52) (v := 1) K dX3_init_52 (by decide) ?_
  refine r_goto (pc := 53) (tgt := 57) K dX3_init_53 (by decide) ?_
  exact r_weak (lv2 := [some (va_rf (some a0)), some (.int x1), some (.int x2), none, some (.int x4), none]) ⟨rfl, rfl, rfl, rfl, trivial⟩ (r_widen (by decide) (by decide) (B_X3_init_b57 K hr E hn  _ _ _ _ _ _ h))
set_option maxRecDepth 100000 in
set_option maxHeartbeats 4000000 in
theorem B_X3_init_b36 (K : Cx strL D cA h0 p l s m args meth c cX3_init RX3 6) (hr : meth.sig.returnType = none) (E : ∀ x ∈ c.exceptionTable.toList, False) (hn : meth.name = "<init>") {res : (Unit ⊕ String) × hpT} : ∀ (a0 : Nat) (x1 : Int32) (x2 : Int32) (x3 : Int32) (xs0 : Int32) (hp : hpT), F_X3_init_b36  a0 x1 x2 x3 xs0 hp = some res → G D cA h0 p l e rm_X3_init s m args below meth c 6 (vx_MQ below (QV D cA h0 res) (XE D cA h0 res) args s 2 103 (Af h0)) 2 103 hp 36 [some (va_rf (some a0)), some (.int x1), some (.int x2), some (.int x3), none, none] [.int xs0] := by
  intro a0 x1 x2 x3 xs0 hp h
  unfold F_X3_init_b36 at h
  refine r_istore (pc := 36) (lv' := [some (va_rf (some a0)), some (.int x1), some (.int x2), some (.int x3), some (.int xs0), none]) K dX3_init_36 (by decide) rfl ?_
  refine r_iload_n (pc := 38) K dX3_init_38 rfl ?_
  refine r_if_eq (pc := 39) (tgt := 52) K dX3_init_39 (by decide) h (fun h _ => ?_) (fun h _ => ?_)
  · exact r_weak (lv2 := [some (va_rf (some a0)), some (.int x1), some (.int x2), none, some (.int xs0), none]) ⟨rfl, rfl, rfl, rfl, trivial⟩ (r_widen (by decide) (by decide) (B_X3_init_b52 K hr E hn  _ _ _ _ _ h))
  · refine r_iload_n (pc := 42) K dX3_init_42 rfl ?_
    refine r_iconst (pc := 43) (v := 2) K dX3_init_43 (by decide) ?_
    refine r_icmp_eq (pc := 44) (tgt := 52) K dX3_init_44 (by decide) h (fun h _ => ?_) (fun h _ => ?_)
    · exact r_weak (lv2 := [some (va_rf (some a0)), some (.int x1), some (.int x2), none, some (.int xs0), none]) ⟨rfl, rfl, rfl, rfl, trivial⟩ (r_widen (by decide) (by decide) (B_X3_init_b52 K hr E hn  _ _ _ _ _ h))
    · refine r_iload_n (pc := 47) K dX3_init_47 rfl ?_
      refine r_iconst (pc := 48) (v := 3) K dX3_init_48 (by decide) ?_
      refine r_icmp_ne (pc := 49) (tgt := 56) K dX3_init_49 (by decide) h (fun h _ => ?_) (fun h _ => ?_)
      · refine r_iconst (pc := 56) (v := 0) K dX3_init_56 (by decide) ?_
        exact r_weak (lv2 := [some (va_rf (some a0)), some (.int x1), some (.int x2), none, some (.int xs0), none]) ⟨rfl, rfl, rfl, rfl, trivial⟩ (r_widen (by decide) (by decide) (B_X3_init_b57 K hr E hn  _ _ _ _ _ _ h))
      · exact r_weak (lv2 := [some (va_rf (some a0)), some (.int x1), some (.int x2), none, some (.int xs0), none]) ⟨rfl, rfl, rfl, rfl, trivial⟩ (r_widen (by decide) (by decide) (B_X3_init_b52 K hr E hn  _ _ _ _ _ h))
set_option maxRecDepth 100000 in
set_option maxHeartbeats 4000000 in
theorem B_X3_init_b31 (K : Cx strL D cA h0 p l s m args meth c cX3_init RX3 6) (hr : meth.sig.returnType = none) (E : ∀ x ∈ c.exceptionTable.toList, False) (hn : meth.name = "<init>") {res : (Unit ⊕ String) × hpT} : ∀ (a0 : Nat) (x1 : Int32) (x2 : Int32) (x3 : Int32) (hp : hpT), F_X3_init_b31  a0 x1 x2 x3 hp = some res → G D cA h0 p l e rm_X3_init s m args below meth c 6 (vx_MQ below (QV D cA h0 res) (XE D cA h0 res) args s 2 103 (Af h0)) 2 103 hp 31 [some (va_rf (some a0)), some (.int x1), some (.int x2), some (.int x3), none, none] [] := by
  intro a0 x1 x2 x3 hp h
  unfold F_X3_init_b31 at h
  refine r_iconst (pc := 31) (v := 1) K dX3_init_31 (by decide) ?_
  refine r_goto (pc := 32) (tgt := 36) K dX3_init_32 (by decide) ?_
  exact r_weak (lv2 := [some (va_rf (some a0)), some (.int x1), some (.int x2), some (.int x3), none, none]) ⟨rfl, rfl, rfl, rfl, trivial⟩ (r_widen (by decide) (by decide) (B_X3_init_b36 K hr E hn  _ _ _ _ _ _ h))
set_option maxRecDepth 100000 in
set_option maxHeartbeats 4000000 in
theorem M_X3_init {D : va_G} {cA : Nat → ClassId} {h0 : Nat} {l : Launch} (hl : l.stackTraces = false) (a0 : Nat) (x1 : Int32) (x2 : Int32) (x3 : Int32) (hp : hpT) (res : (Unit ⊕ String) × hpT) (h : F_X3_init a0 x1 x2 x3 hp = some res) : vx_Met l yX3_init (wsm yX3_init cX3_init 6 none) rm_X3_init (va_Pc [va_rf (some a0), .int x1, .int x2, .int x3] (Pre strL D cA h0 hp)) (QV D cA h0 res) (XE D cA h0 res) 2 103 (Af h0) := by
  unfold F_X3_init at h
  refine g_entry (by decide +kernel) hl (cat_c rfl (cat_c rfl (cat_c rfl (cat_c rfl (cat_n))))) (Nat.le_of_ble_eq_true rfl) (lv := [some (va_rf (some a0)), some (.int x1), some (.int x2), some (.int x3), none, none]) rfl ?_
  intro p e s m args below meth c K hr E hn
  have K : Cx strL D cA h0 p l s m args meth c cX3_init RX3 6 := K
  refine r_aload_n (pc := 0) K dX3_init_0 rfl ?_
  refine r_objInit (pc := 1) K dX3_init_1 oi_RX3_3 oi_i oi_c (Nat.le_of_ble_eq_true rfl) (Nat.le_of_ble_eq_true rfl) ?_
  refine r_aload_n (pc := 4) K dX3_init_4 rfl ?_
  refine r_new (pc := 5) K dX3_init_5 cl_RX3_9 nw_0 (by decide) (by decide) h (fun a24 h24 h => ?_)
  refine r_dup (pc := 8) K dX3_init_8 rfl ?_
  refine r_iload_n (pc := 9) K dX3_init_9 rfl ?_
  refine r_iload_n (pc := 10) K dX3_init_10 rfl ?_
  refine i_void (pc := 11) (st := [va_rf (some a24), va_rf (some a0)]) (As := [.int x1, .int x2]) (b := a24) K E (fun _ e1 => M_X0_init K.2.2.2.2.2.2.1 _ _ _ _ _ e1) h dX3_init_11 ce_X0_init ci_X0_init lk_RX3_11 rfl rfl (by decide) rfl rfl (Nat.le_of_ble_eq_true rfl) rfl rfl (by decide) (by decide) (fun _ h25 h => ?_)
  refine r_putF (pc := 14) K hn dX3_init_14 fk_RX3_14 ff_3_0 rfl rfl h (fun h26 h => ?_)
  refine r_aload_n (pc := 17) K dX3_init_17 rfl ?_
  refine r_iload_n (pc := 18) K dX3_init_18 rfl ?_
  refine r_putF (pc := 19) K hn dX3_init_19 fk_RX3_20 ff_3_1 rfl rfl h (fun h27 h => ?_)
  refine r_iload_n (pc := 22) K dX3_init_22 rfl ?_
  refine r_if_eq (pc := 23) (tgt := 31) K dX3_init_23 (by decide) h (fun h _ => ?_) (fun h _ => ?_)
  · exact r_weak (lv2 := [some (va_rf (some a0)), some (.int x1), some (.int x2), some (.int x3), none, none]) ⟨rfl, rfl, rfl, rfl, trivial⟩ (r_widen (by decide) (by decide) (B_X3_init_b31 K hr E hn  _ _ _ _ _ h))
  · refine r_iload_n (pc := 26) K dX3_init_26 rfl ?_
    refine r_iconst (pc := 27) (v := 1) K dX3_init_27 (by decide) ?_
    refine r_icmp_ne (pc := 28) (tgt := 35) K dX3_init_28 (by decide) h (fun h _ => ?_) (fun h _ => ?_)
    · refine r_iconst (pc := 35) (v := 0) K dX3_init_35 (by decide) ?_
      exact r_weak (lv2 := [some (va_rf (some a0)), some (.int x1), some (.int x2), some (.int x3), none, none]) ⟨rfl, rfl, rfl, rfl, trivial⟩ (r_widen (by decide) (by decide) (B_X3_init_b36 K hr E hn  _ _ _ _ _ _ h))
    · exact r_weak (lv2 := [some (va_rf (some a0)), some (.int x1), some (.int x2), some (.int x3), none, none]) ⟨rfl, rfl, rfl, rfl, trivial⟩ (r_widen (by decide) (by decide) (B_X3_init_b31 K hr E hn  _ _ _ _ _ h))
def rm_X7_pattern : Room := { frames := 7, cells := 6, slots := 125, locals := 112 }
set_option maxRecDepth 100000 in
set_option maxHeartbeats 4000000 in
theorem B_X7_pattern_b59 (K : Cx strL D cA h0 p l s m args meth c cX7_pattern RX7 5) (hr : meth.sig.returnType = (some .int)) (E : ∀ x ∈ c.exceptionTable.toList, False) {res : (Int32 ⊕ String) × hpT} : ∀ (hp : hpT), F_X7_pattern_b59   hp = some res → G D cA h0 p l e rm_X7_pattern s m args below meth c 5 (vx_MQ below (QI D cA h0 res) (XE D cA h0 res) args s 6 125 (Af h0)) 3 18 hp 59 [none, none, none, none, none] [] := by
  intro  hp h
  unfold F_X7_pattern_b59 at h
  exact r_throw (pc := 59) K E dX7_pattern_59 dX7_pattern_62 dX7_pattern_63 dX7_pattern_65 dX7_pattern_68 th_RX7_49_53 st_RX7_51 h (Nat.le_of_ble_eq_true rfl) (Nat.le_of_ble_eq_true rfl) (by decide) (by decide) (by decide) (by decide)
set_option maxRecDepth 100000 in
set_option maxHeartbeats 4000000 in
theorem B_X7_pattern_b38 (K : Cx strL D cA h0 p l s m args meth c cX7_pattern RX7 5) (hr : meth.sig.returnType = (some .int)) (E : ∀ x ∈ c.exceptionTable.toList, False) {res : (Int32 ⊕ String) × hpT} : ∀ (a0 : Nat) (x1 : Int32) (x2 : Int32) (x3 : Int32) (hp : hpT), F_X7_pattern_b38  a0 x1 x2 x3 hp = some res → G D cA h0 p l e rm_X7_pattern s m args below meth c 5 (vx_MQ below (QI D cA h0 res) (XE D cA h0 res) args s 6 125 (Af h0)) 3 18 hp 38 [some (va_rf (some a0)), some (.int x1), some (.int x2), some (.int x3), none] [] := by
  intro a0 x1 x2 x3 hp h
  unfold F_X7_pattern_b38 at h
  refine r_aload_n (pc := 38) K dX7_pattern_38 rfl ?_
  refine r_getI (pc := 39) K dX7_pattern_39 fk_RX7_45 h (fun x21 h => ?_)
  refine r_istore (pc := 42) (lv' := [some (va_rf (some a0)), some (.int x1), some (.int x2), some (.int x3), some (.int x21)]) K dX7_pattern_42 (by decide) rfl ?_
  refine r_iload (pc := 44) K dX7_pattern_44 rfl ?_
  refine r_if_lt (pc := 46) (tgt := 59) K dX7_pattern_46 (by decide) h (fun h _ => ?_) (fun h _ => ?_)
  · exact r_weak (lv2 := [none, none, none, none, none]) trivial (r_widen (by decide) (by decide) (B_X7_pattern_b59 K hr E   _ h))
  · refine r_iload (pc := 49) K dX7_pattern_49 rfl ?_
    refine r_aload_n (pc := 51) K dX7_pattern_51 rfl ?_
    refine r_getR (pc := 52) K dX7_pattern_52 fk_RX7_11 h (fun r22 h => ?_)
    refine nn_k h (fun a23 hz hq23 => ?_)
    subst hz
    have h := hq23
    refine r_alen (pc := 55) K dX7_pattern_55 h (fun x24 h => ?_)
    refine r_icmp_lt (pc := 56) (tgt := 69) K dX7_pattern_56 (by decide) h (fun h _ => ?_) (fun h _ => ?_)
    · refine r_aload_n (pc := 69) K dX7_pattern_69 rfl ?_
      refine r_getR (pc := 70) K dX7_pattern_70 fk_RX7_11 h (fun r25 h => ?_)
      refine r_iload (pc := 73) K dX7_pattern_73 rfl ?_
      refine r_new (pc := 75) K dX7_pattern_75 cl_RX7_9 nw_3 (by decide) (by decide) h (fun a26 h26 h => ?_)
      refine r_dup (pc := 78) K dX7_pattern_78 rfl ?_
      refine r_iload_n (pc := 79) K dX7_pattern_79 rfl ?_
      refine r_iload_n (pc := 80) K dX7_pattern_80 rfl ?_
      refine r_iload_n (pc := 81) K dX7_pattern_81 rfl ?_
      refine i_void (pc := 82) (st := [va_rf (some a26), .int x21, va_rf r25]) (As := [.int x1, .int x2, .int x3]) (b := a26) K E (fun _ e1 => M_X3_init K.2.2.2.2.2.2.1 _ _ _ _ _ _ e1) h dX7_pattern_82 ce_X3_init ci_X3_init lk_RX7_54 rfl rfl (by decide) rfl rfl (mcat_le (cat_c rfl (cat_c rfl (cat_c (va_rf_cat _) (cat_n)))) (Nat.le_of_ble_eq_true rfl)) rfl rfl (by decide) (by decide) (fun _ h27 h => ?_)
      refine nn_k h (fun a28 hz hq28 => ?_)
      subst hz
      have h := hq28
      refine r_aast (pc := 85) K dX7_pattern_85 (k0 := 2) (ci := 3) (q0 := (RX3, TX3, 4)) rfl rfl h (fun h29 h => ?_)
      refine r_aload_n (pc := 86) K dX7_pattern_86 rfl ?_
      refine r_iload (pc := 87) K dX7_pattern_87 rfl ?_
      refine r_iconst (pc := 89) (v := 1) K dX7_pattern_89 (by decide) ?_
      refine r_iadd (pc := 90) K dX7_pattern_90 ?_
      refine r_put (pc := 91) K dX7_pattern_91 fk_RX7_45 fn_7_1 rfl rfl h (fun h30 h => ?_)
      refine r_iload (pc := 94) K dX7_pattern_94 rfl ?_
      exact r_ireturn (pc := 96) K hr dX7_pattern_96 h (by decide) (by decide)
    · exact r_weak (lv2 := [none, none, none, none, none]) trivial (r_widen (by decide) (by decide) (B_X7_pattern_b59 K hr E   _ h))
set_option maxRecDepth 100000 in
set_option maxHeartbeats 4000000 in
theorem M_X7_pattern {D : va_G} {cA : Nat → ClassId} {h0 : Nat} {l : Launch} (hl : l.stackTraces = false) (a0 : Nat) (x1 : Int32) (x2 : Int32) (x3 : Int32) (hp : hpT) (res : (Int32 ⊕ String) × hpT) (h : F_X7_pattern a0 x1 x2 x3 hp = some res) : vx_Met l yX7_pattern (wsm yX7_pattern cX7_pattern 5 (some .int)) rm_X7_pattern (va_Pc [va_rf (some a0), .int x1, .int x2, .int x3] (Pre strL D cA h0 hp)) (QI D cA h0 res) (XE D cA h0 res) 6 125 (Af h0) := by
  unfold F_X7_pattern at h
  refine g_entry (by decide +kernel) hl (cat_c rfl (cat_c rfl (cat_c rfl (cat_c rfl (cat_n))))) (Nat.le_of_ble_eq_true rfl) (lv := [some (va_rf (some a0)), some (.int x1), some (.int x2), some (.int x3), none]) rfl ?_
  intro p e s m args below meth c K hr E hn
  have K : Cx strL D cA h0 p l s m args meth c cX7_pattern RX7 5 := K
  refine r_iload_n (pc := 0) K dX7_pattern_0 rfl ?_
  refine r_iconst (pc := 1) (v := 1) K dX7_pattern_1 (by decide) ?_
  refine r_iconst (pc := 2) (v := 5) K dX7_pattern_2 (by decide) ?_
  refine s_void (pc := 3) (st := []) (As := [.int x1, .int 1, .int 5]) K E (fun _ e1 => M_X7_requireWithin K.2.2.2.2.2.2.1 _ _ _ _ _ e1) h dX7_pattern_3 ce_X7_requireWithin cs_X7_requireWithin lk_RX7_34 rfl rfl (by decide) rfl rfl (Nat.le_of_ble_eq_true rfl) rfl rfl (by decide) (by decide) (fun _ h31 h => ?_)
  refine r_iload_n (pc := 6) K dX7_pattern_6 rfl ?_
  refine r_iconst (pc := 7) (v := 1) K dX7_pattern_7 (by decide) ?_
  refine r_iconst (pc := 8) (v := 5) K dX7_pattern_8 (by decide) ?_
  refine s_void (pc := 9) (st := []) (As := [.int x2, .int 1, .int 5]) K E (fun _ e1 => M_X7_requireWithin K.2.2.2.2.2.2.1 _ _ _ _ _ e1) h dX7_pattern_9 ce_X7_requireWithin cs_X7_requireWithin lk_RX7_34 rfl rfl (by decide) rfl rfl (Nat.le_of_ble_eq_true rfl) rfl rfl (by decide) (by decide) (fun _ h32 h => ?_)
  refine r_iload_n (pc := 12) K dX7_pattern_12 rfl ?_
  refine r_iconst (pc := 13) (v := 0) K dX7_pattern_13 (by decide) ?_
  refine r_iconst (pc := 14) (v := 5) K dX7_pattern_14 (by decide) ?_
  refine s_void (pc := 15) (st := []) (As := [.int x3, .int 0, .int 5]) K E (fun _ e1 => M_X7_requireWithin K.2.2.2.2.2.2.1 _ _ _ _ _ e1) h dX7_pattern_15 ce_X7_requireWithin cs_X7_requireWithin lk_RX7_34 rfl rfl (by decide) rfl rfl (Nat.le_of_ble_eq_true rfl) rfl rfl (by decide) (by decide) (fun _ h33 h => ?_)
  refine r_iload_n (pc := 18) K dX7_pattern_18 rfl ?_
  refine r_iconst (pc := 19) (v := 5) K dX7_pattern_19 (by decide) ?_
  refine r_icmp_ne (pc := 20) (tgt := 38) K dX7_pattern_20 (by decide) h (fun h _ => ?_) (fun h _ => ?_)
  · exact r_weak (lv2 := [some (va_rf (some a0)), some (.int x1), some (.int x2), some (.int x3), none]) ⟨rfl, rfl, rfl, rfl, trivial⟩ (r_widen (by decide) (by decide) (B_X7_pattern_b38 K hr E  _ _ _ _ _ h))
  · refine r_iload_n (pc := 23) K dX7_pattern_23 rfl ?_
    refine r_iload_n (pc := 24) K dX7_pattern_24 rfl ?_
    refine r_icmp_eq (pc := 25) (tgt := 38) K dX7_pattern_25 (by decide) h (fun h _ => ?_) (fun h _ => ?_)
    · exact r_weak (lv2 := [some (va_rf (some a0)), some (.int x1), some (.int x2), some (.int x3), none]) ⟨rfl, rfl, rfl, rfl, trivial⟩ (r_widen (by decide) (by decide) (B_X7_pattern_b38 K hr E  _ _ _ _ _ h))
    · exact r_throw (pc := 28) K E dX7_pattern_28 dX7_pattern_31 dX7_pattern_32 dX7_pattern_34 dX7_pattern_37 th_RX7_38_42 st_RX7_40 h (Nat.le_of_ble_eq_true rfl) (Nat.le_of_ble_eq_true rfl) (by decide) (by decide) (by decide) (by decide)
def rm_X7_patternAt : Room := { frames := 6, cells := 1, slots := 6, locals := 90 }
set_option maxRecDepth 100000 in
set_option maxHeartbeats 4000000 in
theorem B_X7_patternAt_b23 (K : Cx strL D cA h0 p l s m args meth c cX7_patternAt RX7 3) (hr : meth.sig.returnType = (some (.object "RollerLeaf$Pattern"))) (E : ∀ x ∈ c.exceptionTable.toList, False) {res : (Nat ⊕ String) × hpT} : ∀ (rs0 : Option Nat) (hp : hpT), F_X7_patternAt_b23  rs0 hp = some res → G D cA h0 p l e rm_X7_patternAt s m args below meth c 3 (vx_MQ below (QR D cA h0 res) (XE D cA h0 res) args s 1 6 (Af h0)) 0 0 hp 23 [none, none, none] [va_rf rs0] := by
  intro rs0 hp h
  unfold F_X7_patternAt_b23 at h
  refine r_astore_n (pc := 23) (lv' := [none, none, some (va_rf rs0)]) K dX7_patternAt_23 (by decide) rfl ?_
  refine r_aload_n (pc := 24) K dX7_patternAt_24 rfl ?_
  refine r_ifnonnull (pc := 25) (tgt := 38) K dX7_patternAt_25 (by decide) h (fun hz hq21 => ?_) (fun a21 hz hq21 => ?_)
  · subst hz
    have h := hq21
    exact r_throw (pc := 28) K E dX7_patternAt_28 dX7_patternAt_31 dX7_patternAt_32 dX7_patternAt_34 dX7_patternAt_37 th_RX7_70_74 st_RX7_249 h (Nat.le_of_ble_eq_true rfl) (Nat.le_of_ble_eq_true rfl) (by decide) (by decide) (by decide) (by decide)
  · subst hz
    have h := hq21
    refine r_aload_n (pc := 38) K dX7_patternAt_38 rfl ?_
    exact r_areturn (pc := 39) K hr dX7_patternAt_39 h (by decide) (by decide)
set_option maxRecDepth 100000 in
set_option maxHeartbeats 4000000 in
theorem B_X7_patternAt_b13 (K : Cx strL D cA h0 p l s m args meth c cX7_patternAt RX7 3) (hr : meth.sig.returnType = (some (.object "RollerLeaf$Pattern"))) (E : ∀ x ∈ c.exceptionTable.toList, False) {res : (Nat ⊕ String) × hpT} : ∀ (hp : hpT), F_X7_patternAt_b13   hp = some res → G D cA h0 p l e rm_X7_patternAt s m args below meth c 3 (vx_MQ below (QR D cA h0 res) (XE D cA h0 res) args s 1 6 (Af h0)) 0 0 hp 13 [none, none, none] [] := by
  intro  hp h
  unfold F_X7_patternAt_b13 at h
  refine r_null (pc := 13) K dX7_patternAt_13 ?_
  refine r_goto (pc := 14) (tgt := 23) K dX7_patternAt_14 (by decide) ?_
  exact r_weak (lv2 := [none, none, none]) trivial (r_widen (by decide) (by decide) (B_X7_patternAt_b23 K hr E  _ _ h))
set_option maxRecDepth 100000 in
set_option maxHeartbeats 4000000 in
theorem M_X7_patternAt {D : va_G} {cA : Nat → ClassId} {h0 : Nat} {l : Launch} (hl : l.stackTraces = false) (a0 : Nat) (x1 : Int32) (hp : hpT) (res : (Nat ⊕ String) × hpT) (h : F_X7_patternAt a0 x1 hp = some res) : vx_Met l yX7_patternAt (wsm yX7_patternAt cX7_patternAt 3 (some (.object "RollerLeaf$Pattern"))) rm_X7_patternAt (va_Pc [va_rf (some a0), .int x1] (Pre strL D cA h0 hp)) (QR D cA h0 res) (XE D cA h0 res) 1 6 (Af h0) := by
  unfold F_X7_patternAt at h
  refine g_entry (by decide +kernel) hl (cat_c rfl (cat_c rfl (cat_n))) (Nat.le_of_ble_eq_true rfl) (lv := [some (va_rf (some a0)), some (.int x1), none]) rfl ?_
  intro p e s m args below meth c K hr E hn
  have K : Cx strL D cA h0 p l s m args meth c cX7_patternAt RX7 3 := K
  refine r_iload_n (pc := 0) K dX7_patternAt_0 rfl ?_
  refine r_if_lt (pc := 1) (tgt := 13) K dX7_patternAt_1 (by decide) h (fun h _ => ?_) (fun h _ => ?_)
  · exact r_weak (lv2 := [none, none, none]) trivial (r_widen (by decide) (by decide) (B_X7_patternAt_b13 K hr E   _ h))
  · refine r_iload_n (pc := 4) K dX7_patternAt_4 rfl ?_
    refine r_aload_n (pc := 5) K dX7_patternAt_5 rfl ?_
    refine r_getR (pc := 6) K dX7_patternAt_6 fk_RX7_11 h (fun r22 h => ?_)
    refine nn_k h (fun a23 hz hq23 => ?_)
    subst hz
    have h := hq23
    refine r_alen (pc := 9) K dX7_patternAt_9 h (fun x24 h => ?_)
    refine r_icmp_lt (pc := 10) (tgt := 17) K dX7_patternAt_10 (by decide) h (fun h _ => ?_) (fun h _ => ?_)
    · refine r_aload_n (pc := 17) K dX7_patternAt_17 rfl ?_
      refine r_getR (pc := 18) K dX7_patternAt_18 fk_RX7_11 h (fun r25 h => ?_)
      refine r_iload_n (pc := 21) K dX7_patternAt_21 rfl ?_
      refine nn_k h (fun a26 hz hq26 => ?_)
      subst hz
      have h := hq26
      refine r_aald (pc := 22) K dX7_patternAt_22 (k0 := 2) rfl h (fun r27 h => ?_)
      exact r_weak (lv2 := [none, none, none]) trivial (r_widen (by decide) (by decide) (B_X7_patternAt_b23 K hr E  _ _ h))
    · exact r_weak (lv2 := [none, none, none]) trivial (r_widen (by decide) (by decide) (B_X7_patternAt_b13 K hr E   _ h))
def rm_X0_holds : Room := { frames := 0, cells := 0, slots := 0, locals := 0 }
set_option maxRecDepth 100000 in
set_option maxHeartbeats 4000000 in
theorem B_X0_holds_b28 (K : Cx strL D cA h0 p l s m args meth c cX0_holds RX0 3) (hr : meth.sig.returnType = (some .boolean)) (E : ∀ x ∈ c.exceptionTable.toList, False) {res : (Int32 ⊕ String) × hpT} : ∀ (hp : hpT), F_X0_holds_b28   hp = some res → G D cA h0 p l e rm_X0_holds s m args below meth c 3 (vx_MQ below (QI D cA h0 res) (XE D cA h0 res) args s 0 0 (Af h0)) 0 0 hp 28 [none, none, none] [] := by
  intro  hp h
  unfold F_X0_holds_b28 at h
  refine r_iconst (pc := 28) (v := 0) K dX0_holds_28 (by decide) ?_
  exact r_zreturn (pc := 29) K hr dX0_holds_29 h (by decide) (by decide)
set_option maxRecDepth 100000 in
set_option maxHeartbeats 4000000 in
theorem M_X0_holds {D : va_G} {cA : Nat → ClassId} {h0 : Nat} {l : Launch} (hl : l.stackTraces = false) (a0 : Nat) (x1 : Int32) (x2 : Int32) (hp : hpT) (res : (Int32 ⊕ String) × hpT) (h : F_X0_holds a0 x1 x2 hp = some res) : vx_Met l yX0_holds (wsm yX0_holds cX0_holds 3 (some .boolean)) rm_X0_holds (va_Pc [va_rf (some a0), .int x1, .int x2] (Pre strL D cA h0 hp)) (QI D cA h0 res) (XE D cA h0 res) 0 0 (Af h0) := by
  unfold F_X0_holds at h
  refine g_entry (by decide +kernel) hl (cat_c rfl (cat_c rfl (cat_c rfl (cat_n)))) (Nat.le_of_ble_eq_true rfl) (lv := [some (va_rf (some a0)), some (.int x1), some (.int x2)]) rfl ?_
  intro p e s m args below meth c K hr E hn
  have K : Cx strL D cA h0 p l s m args meth c cX0_holds RX0 3 := K
  refine r_iload_n (pc := 0) K dX0_holds_0 rfl ?_
  refine r_if_lt (pc := 1) (tgt := 28) K dX0_holds_1 (by decide) h (fun h _ => ?_) (fun h _ => ?_)
  · exact r_weak (lv2 := [none, none, none]) trivial ((B_X0_holds_b28 K hr E   _ h))
  · refine r_iload_n (pc := 4) K dX0_holds_4 rfl ?_
    refine r_aload_n (pc := 5) K dX0_holds_5 rfl ?_
    refine r_getI (pc := 6) K dX0_holds_6 fk_RX0_15 h (fun x21 h => ?_)
    refine r_icmp_ge (pc := 9) (tgt := 28) K dX0_holds_9 (by decide) h (fun h _ => ?_) (fun h _ => ?_)
    · exact r_weak (lv2 := [none, none, none]) trivial ((B_X0_holds_b28 K hr E   _ h))
    · refine r_iload_n (pc := 12) K dX0_holds_12 rfl ?_
      refine r_if_lt (pc := 13) (tgt := 28) K dX0_holds_13 (by decide) h (fun h _ => ?_) (fun h _ => ?_)
      · exact r_weak (lv2 := [none, none, none]) trivial ((B_X0_holds_b28 K hr E   _ h))
      · refine r_iload_n (pc := 16) K dX0_holds_16 rfl ?_
        refine r_aload_n (pc := 17) K dX0_holds_17 rfl ?_
        refine r_getI (pc := 18) K dX0_holds_18 fk_RX0_19 h (fun x22 h => ?_)
        refine r_icmp_ge (pc := 21) (tgt := 28) K dX0_holds_21 (by decide) h (fun h _ => ?_) (fun h _ => ?_)
        · exact r_weak (lv2 := [none, none, none]) trivial ((B_X0_holds_b28 K hr E   _ h))
        · refine r_iconst (pc := 24) (v := 1) K dX0_holds_24 (by decide) ?_
          refine r_goto (pc := 25) (tgt := 29) K dX0_holds_25 (by decide) ?_
          exact r_zreturn (pc := 29) K hr dX0_holds_29 h (by decide) (by decide)
def rm_X7_wrapped : Room := { frames := 0, cells := 0, slots := 0, locals := 0 }
set_option maxRecDepth 100000 in
set_option maxHeartbeats 4000000 in
theorem M_X7_wrapped {D : va_G} {cA : Nat → ClassId} {h0 : Nat} {l : Launch} (hl : l.stackTraces = false) (x0 : Int32) (x1 : Int32) (hp : hpT) (res : (Int32 ⊕ String) × hpT) (h : F_X7_wrapped x0 x1 hp = some res) : vx_Met l yX7_wrapped (wsm yX7_wrapped cX7_wrapped 3 (some .int)) rm_X7_wrapped (va_Pc [.int x0, .int x1] (Pre strL D cA h0 hp)) (QI D cA h0 res) (XE D cA h0 res) 0 0 (Af h0) := by
  unfold F_X7_wrapped at h
  refine g_entry (by decide +kernel) hl (cat_c rfl (cat_c rfl (cat_n))) (Nat.le_of_ble_eq_true rfl) (lv := [some (.int x0), some (.int x1), none]) rfl ?_
  intro p e s m args below meth c K hr E hn
  have K : Cx strL D cA h0 p l s m args meth c cX7_wrapped RX7 3 := K
  refine r_iload_n (pc := 0) K dX7_wrapped_0 rfl ?_
  refine r_iconst (pc := 1) (v := 1) K dX7_wrapped_1 (by decide) ?_
  refine r_icmp_ge (pc := 2) (tgt := 7) K dX7_wrapped_2 (by decide) h (fun h _ => ?_) (fun h _ => ?_)
  · refine r_iload_n (pc := 7) K dX7_wrapped_7 rfl ?_
    refine r_iload_n (pc := 8) K dX7_wrapped_8 rfl ?_
    refine r_irem (pc := 9) K dX7_wrapped_9 h (fun h => ?_)
    refine r_istore_n (pc := 10) (lv' := [some (.int x0), some (.int x1), some (.int (irm x0 x1))]) K dX7_wrapped_10 (by decide) rfl ?_
    refine r_iload_n (pc := 11) K dX7_wrapped_11 rfl ?_
    refine r_if_ge (pc := 12) (tgt := 21) K dX7_wrapped_12 (by decide) h (fun h _ => ?_) (fun h _ => ?_)
    · refine r_iload_n (pc := 21) K dX7_wrapped_21 rfl ?_
      exact r_ireturn (pc := 22) K hr dX7_wrapped_22 h (by decide) (by decide)
    · refine r_iload_n (pc := 15) K dX7_wrapped_15 rfl ?_
      refine r_iload_n (pc := 16) K dX7_wrapped_16 rfl ?_
      refine r_iadd (pc := 17) K dX7_wrapped_17 ?_
      refine r_goto (pc := 18) (tgt := 22) K dX7_wrapped_18 (by decide) ?_
      exact r_ireturn (pc := 22) K hr dX7_wrapped_22 h (by decide) (by decide)
  · refine r_iconst (pc := 5) (v := 0) K dX7_wrapped_5 (by decide) ?_
    exact r_ireturn (pc := 6) K hr dX7_wrapped_6 h (by decide) (by decide)
def rm_X0_place : Room := { frames := 1, cells := 0, slots := 0, locals := 22 }
set_option maxRecDepth 100000 in
set_option maxHeartbeats 4000000 in
theorem M_X0_place {D : va_G} {cA : Nat → ClassId} {h0 : Nat} {l : Launch} (hl : l.stackTraces = false) (a0 : Nat) (x1 : Int32) (x2 : Int32) (hp : hpT) (res : (Int32 ⊕ String) × hpT) (h : F_X0_place a0 x1 x2 hp = some res) : vx_Met l yX0_place (wsm yX0_place cX0_place 3 (some .int)) rm_X0_place (va_Pc [va_rf (some a0), .int x1, .int x2] (Pre strL D cA h0 hp)) (QI D cA h0 res) (XE D cA h0 res) 0 0 (Af h0) := by
  unfold F_X0_place at h
  refine g_entry (by decide +kernel) hl (cat_c rfl (cat_c rfl (cat_c rfl (cat_n)))) (Nat.le_of_ble_eq_true rfl) (lv := [some (va_rf (some a0)), some (.int x1), some (.int x2)]) rfl ?_
  intro p e s m args below meth c K hr E hn
  have K : Cx strL D cA h0 p l s m args meth c cX0_place RX0 3 := K
  refine r_iload_n (pc := 0) K dX0_place_0 rfl ?_
  refine r_aload_n (pc := 1) K dX0_place_1 rfl ?_
  refine r_getI (pc := 2) K dX0_place_2 fk_RX0_19 h (fun x21 h => ?_)
  refine s_int (pc := 5) (st := []) (As := [.int x2, .int x21]) K E (fun _ e1 => M_X7_wrapped K.2.2.2.2.2.2.1 _ _ _ _ e1) h dX0_place_5 ce_X7_wrapped cs_X7_wrapped lk_RX0_26 rfl rfl (by decide) rfl rfl (Nat.le_of_ble_eq_true rfl) rfl rfl (by decide) (by decide) (fun x22 h22 h => ?_)
  refine r_aload_n (pc := 8) K dX0_place_8 rfl ?_
  refine r_getI (pc := 9) K dX0_place_9 fk_RX0_15 h (fun x23 h => ?_)
  refine r_imul (pc := 12) K dX0_place_12 ?_
  refine r_iload_n (pc := 13) K dX0_place_13 rfl ?_
  refine r_aload_n (pc := 14) K dX0_place_14 rfl ?_
  refine r_getI (pc := 15) K dX0_place_15 fk_RX0_15 h (fun x24 h => ?_)
  refine s_int (pc := 18) (st := [.int (x22 * x23)]) (As := [.int x1, .int x24]) K E (fun _ e1 => M_X7_wrapped K.2.2.2.2.2.2.1 _ _ _ _ e1) h dX0_place_18 ce_X7_wrapped cs_X7_wrapped lk_RX0_26 rfl rfl (by decide) rfl rfl (Nat.le_of_ble_eq_true rfl) rfl rfl (by decide) (by decide) (fun x25 h25 h => ?_)
  refine r_iadd (pc := 21) K dX0_place_21 ?_
  exact r_ireturn (pc := 22) K hr dX0_place_22 h (by decide) (by decide)
def rm_X0_colourAt : Room := { frames := 2, cells := 0, slots := 0, locals := 44 }
set_option maxRecDepth 100000 in
set_option maxHeartbeats 4000000 in
theorem B_X0_colourAt_b20 (K : Cx strL D cA h0 p l s m args meth c cX0_colourAt RX0 4) (hr : meth.sig.returnType = (some .int)) (E : ∀ x ∈ c.exceptionTable.toList, False) {res : (Int32 ⊕ String) × hpT} : ∀ (hp : hpT), F_X0_colourAt_b20   hp = some res → G D cA h0 p l e rm_X0_colourAt s m args below meth c 4 (vx_MQ below (QI D cA h0 res) (XE D cA h0 res) args s 0 0 (Af h0)) 0 0 hp 20 [none, none, none, none] [] := by
  intro  hp h
  unfold F_X0_colourAt_b20 at h
  refine r_iconst (pc := 20) (v := (-1)) K dX0_colourAt_20 (by decide) ?_
  refine r_goto (pc := 21) (tgt := 30) K dX0_colourAt_21 (by decide) ?_
  exact r_ireturn (pc := 30) K hr dX0_colourAt_30 h (by decide) (by decide)
set_option maxRecDepth 100000 in
set_option maxHeartbeats 4000000 in
theorem M_X0_colourAt {D : va_G} {cA : Nat → ClassId} {h0 : Nat} {l : Launch} (hl : l.stackTraces = false) (a0 : Nat) (x1 : Int32) (x2 : Int32) (hp : hpT) (res : (Int32 ⊕ String) × hpT) (h : F_X0_colourAt a0 x1 x2 hp = some res) : vx_Met l yX0_colourAt (wsm yX0_colourAt cX0_colourAt 4 (some .int)) rm_X0_colourAt (va_Pc [va_rf (some a0), .int x1, .int x2] (Pre strL D cA h0 hp)) (QI D cA h0 res) (XE D cA h0 res) 0 0 (Af h0) := by
  unfold F_X0_colourAt at h
  refine g_entry (by decide +kernel) hl (cat_c rfl (cat_c rfl (cat_c rfl (cat_n)))) (Nat.le_of_ble_eq_true rfl) (lv := [some (va_rf (some a0)), some (.int x1), some (.int x2), none]) rfl ?_
  intro p e s m args below meth c K hr E hn
  have K : Cx strL D cA h0 p l s m args meth c cX0_colourAt RX0 4 := K
  refine r_aload_n (pc := 0) K dX0_colourAt_0 rfl ?_
  refine r_iload_n (pc := 1) K dX0_colourAt_1 rfl ?_
  refine r_iload_n (pc := 2) K dX0_colourAt_2 rfl ?_
  refine v_int (pc := 3) (st := []) (As := [.int x1, .int x2]) (b := a0) (ci := 0) (q0 := (RX0, TX0, 3)) K E (fun _ e1 => M_X0_place K.2.2.2.2.2.2.1 _ _ _ _ _ e1) h dX0_colourAt_3 ce_X0_place cv_X0_place lk_RX0_22 rfl rfl rfl rfl (by decide) rfl rfl (Nat.le_of_ble_eq_true rfl) rfl rfl (by decide) (by decide) (fun x21 h21 h => ?_)
  refine r_istore_n (pc := 6) (lv' := [some (va_rf (some a0)), some (.int x1), some (.int x2), some (.int x21)]) K dX0_colourAt_6 (by decide) rfl ?_
  refine r_iload_n (pc := 7) K dX0_colourAt_7 rfl ?_
  refine r_if_lt (pc := 8) (tgt := 20) K dX0_colourAt_8 (by decide) h (fun h _ => ?_) (fun h _ => ?_)
  · exact r_weak (lv2 := [none, none, none, none]) trivial ((B_X0_colourAt_b20 K hr E   _ h))
  · refine r_iload_n (pc := 11) K dX0_colourAt_11 rfl ?_
    refine r_aload_n (pc := 12) K dX0_colourAt_12 rfl ?_
    refine r_getR (pc := 13) K dX0_colourAt_13 fk_RX0_9 h (fun r22 h => ?_)
    refine nn_k h (fun a23 hz hq23 => ?_)
    subst hz
    have h := hq23
    refine r_alen (pc := 16) K dX0_colourAt_16 h (fun x24 h => ?_)
    refine r_icmp_lt (pc := 17) (tgt := 24) K dX0_colourAt_17 (by decide) h (fun h _ => ?_) (fun h _ => ?_)
    · refine r_aload_n (pc := 24) K dX0_colourAt_24 rfl ?_
      refine r_getR (pc := 25) K dX0_colourAt_25 fk_RX0_9 h (fun r25 h => ?_)
      refine r_iload_n (pc := 28) K dX0_colourAt_28 rfl ?_
      refine nn_k h (fun a26 hz hq26 => ?_)
      subst hz
      have h := hq26
      refine r_iald (pc := 29) K dX0_colourAt_29 h (fun x27 h => ?_)
      exact r_ireturn (pc := 30) K hr dX0_colourAt_30 h (by decide) (by decide)
    · exact r_weak (lv2 := [none, none, none, none]) trivial ((B_X0_colourAt_b20 K hr E   _ h))
def rm_X0_put : Room := { frames := 2, cells := 0, slots := 0, locals := 44 }
set_option maxRecDepth 100000 in
set_option maxHeartbeats 4000000 in
theorem M_X0_put {D : va_G} {cA : Nat → ClassId} {h0 : Nat} {l : Launch} (hl : l.stackTraces = false) (a0 : Nat) (x1 : Int32) (x2 : Int32) (x3 : Int32) (hp : hpT) (res : (Unit ⊕ String) × hpT) (h : F_X0_put a0 x1 x2 x3 hp = some res) : vx_Met l yX0_put (wsm yX0_put cX0_put 5 none) rm_X0_put (va_Pc [va_rf (some a0), .int x1, .int x2, .int x3] (Pre strL D cA h0 hp)) (QV D cA h0 res) (XE D cA h0 res) 0 0 (Af h0) := by
  unfold F_X0_put at h
  refine g_entry (by decide +kernel) hl (cat_c rfl (cat_c rfl (cat_c rfl (cat_c rfl (cat_n))))) (Nat.le_of_ble_eq_true rfl) (lv := [some (va_rf (some a0)), some (.int x1), some (.int x2), some (.int x3), none]) rfl ?_
  intro p e s m args below meth c K hr E hn
  have K : Cx strL D cA h0 p l s m args meth c cX0_put RX0 5 := K
  refine r_aload_n (pc := 0) K dX0_put_0 rfl ?_
  refine r_iload_n (pc := 1) K dX0_put_1 rfl ?_
  refine r_iload_n (pc := 2) K dX0_put_2 rfl ?_
  refine v_int (pc := 3) (st := []) (As := [.int x1, .int x2]) (b := a0) (ci := 0) (q0 := (RX0, TX0, 3)) K E (fun _ e1 => M_X0_place K.2.2.2.2.2.2.1 _ _ _ _ _ e1) h dX0_put_3 ce_X0_place cv_X0_place lk_RX0_22 rfl rfl rfl rfl (by decide) rfl rfl (Nat.le_of_ble_eq_true rfl) rfl rfl (by decide) (by decide) (fun x21 h21 h => ?_)
  refine r_istore (pc := 6) (lv' := [some (va_rf (some a0)), some (.int x1), some (.int x2), some (.int x3), some (.int x21)]) K dX0_put_6 (by decide) rfl ?_
  refine r_iload (pc := 8) K dX0_put_8 rfl ?_
  refine r_if_lt (pc := 10) (tgt := 31) K dX0_put_10 (by decide) h (fun h _ => ?_) (fun h _ => ?_)
  · exact r_vreturn (pc := 31) K hr dX0_put_31 h (by decide) (by decide)
  · refine r_iload (pc := 13) K dX0_put_13 rfl ?_
    refine r_aload_n (pc := 15) K dX0_put_15 rfl ?_
    refine r_getR (pc := 16) K dX0_put_16 fk_RX0_9 h (fun r22 h => ?_)
    refine nn_k h (fun a23 hz hq23 => ?_)
    subst hz
    have h := hq23
    refine r_alen (pc := 19) K dX0_put_19 h (fun x24 h => ?_)
    refine r_icmp_ge (pc := 20) (tgt := 31) K dX0_put_20 (by decide) h (fun h _ => ?_) (fun h _ => ?_)
    · exact r_vreturn (pc := 31) K hr dX0_put_31 h (by decide) (by decide)
    · refine r_aload_n (pc := 23) K dX0_put_23 rfl ?_
      refine r_getR (pc := 24) K dX0_put_24 fk_RX0_9 h (fun r25 h => ?_)
      refine r_iload (pc := 27) K dX0_put_27 rfl ?_
      refine r_iload_n (pc := 29) K dX0_put_29 rfl ?_
      refine nn_k h (fun a26 hz hq26 => ?_)
      subst hz
      have h := hq26
      refine r_iast (pc := 30) K dX0_put_30 h (fun h27 h => ?_)
      exact r_vreturn (pc := 31) K hr dX0_put_31 h (by decide) (by decide)
def rm_X7_paint : Room := { frames := 7, cells := 2, slots := 12, locals := 112 }
set_option maxRecDepth 100000 in
set_option maxHeartbeats 4000000 in
theorem M_X7_paint {D : va_G} {cA : Nat → ClassId} {h0 : Nat} {l : Launch} (hl : l.stackTraces = false) (a0 : Nat) (x1 : Int32) (x2 : Int32) (x3 : Int32) (x4 : Int32) (hp : hpT) (res : (Int32 ⊕ String) × hpT) (h : F_X7_paint a0 x1 x2 x3 x4 hp = some res) : vx_Met l yX7_paint (wsm yX7_paint cX7_paint 7 (some .int)) rm_X7_paint (va_Pc [va_rf (some a0), .int x1, .int x2, .int x3, .int x4] (Pre strL D cA h0 hp)) (QI D cA h0 res) (XE D cA h0 res) 2 12 (Af h0) := by
  unfold F_X7_paint at h
  refine g_entry (by decide +kernel) hl (cat_c rfl (cat_c rfl (cat_c rfl (cat_c rfl (cat_c rfl (cat_n)))))) (Nat.le_of_ble_eq_true rfl) (lv := [some (va_rf (some a0)), some (.int x1), some (.int x2), some (.int x3), some (.int x4), none, none]) rfl ?_
  intro p e s m args below meth c K hr E hn
  have K : Cx strL D cA h0 p l s m args meth c cX7_paint RX7 7 := K
  refine r_aload_n (pc := 0) K dX7_paint_0 rfl ?_
  refine r_iload_n (pc := 1) K dX7_paint_1 rfl ?_
  refine v_ref (pc := 2) (st := []) (As := [.int x1]) (b := a0) (ci := 7) (q0 := (RX7, TX7, 8)) K E (fun _ e1 => M_X7_patternAt K.2.2.2.2.2.2.1 _ _ _ _ e1) h dX7_paint_2 ce_X7_patternAt cv_X7_patternAt lk_RX7_56 rfl rfl rfl rfl (by decide) rfl rfl (Nat.le_of_ble_eq_true rfl) rfl rfl (by decide) (by decide) (fun a21 h21 h => ?_)
  refine r_astore (pc := 5) (lv' := [some (va_rf (some a0)), some (.int x1), some (.int x2), some (.int x3), some (.int x4), some (va_rf (some a21)), none]) K dX7_paint_5 (by decide) rfl ?_
  refine r_aload (pc := 7) K dX7_paint_7 rfl ?_
  refine r_getR (pc := 9) K dX7_paint_9 fk_RX7_60 h (fun r22 h => ?_)
  refine r_iload_n (pc := 12) K dX7_paint_12 rfl ?_
  refine r_iload_n (pc := 13) K dX7_paint_13 rfl ?_
  refine nn_k h (fun a23 hz hq23 => ?_)
  subst hz
  have h := hq23
  refine v_int (pc := 14) (st := []) (As := [.int x2, .int x3]) (b := a23) (ci := 0) (q0 := (RX0, TX0, 3)) K E (fun _ e1 => M_X0_holds K.2.2.2.2.2.2.1 _ _ _ _ _ e1) h dX7_paint_14 ce_X0_holds cv_X0_holds lk_RX7_64 rfl rfl rfl rfl (by decide) rfl rfl (Nat.le_of_ble_eq_true rfl) rfl rfl (by decide) (by decide) (fun x24 h24 h => ?_)
  refine r_if_ne (pc := 17) (tgt := 30) K dX7_paint_17 (by decide) h (fun h _ => ?_) (fun h _ => ?_)
  · refine r_iload (pc := 30) K dX7_paint_30 rfl ?_
    refine r_iconst (pc := 32) (v := 0) K dX7_paint_32 (by decide) ?_
    refine r_bipush (pc := 33) (v := 7) K dX7_paint_33 (by decide) ?_
    refine s_void (pc := 35) (st := []) (As := [.int x4, .int 0, .int 7]) K E (fun _ e1 => M_X7_requireWithin K.2.2.2.2.2.2.1 _ _ _ _ _ e1) h dX7_paint_35 ce_X7_requireWithin cs_X7_requireWithin lk_RX7_34 rfl rfl (by decide) rfl rfl (Nat.le_of_ble_eq_true rfl) rfl rfl (by decide) (by decide) (fun _ h25 h => ?_)
    refine r_aload (pc := 38) K dX7_paint_38 rfl ?_
    refine r_getR (pc := 40) K dX7_paint_40 fk_RX7_60 h (fun r26 h => ?_)
    refine r_iload_n (pc := 43) K dX7_paint_43 rfl ?_
    refine r_iload_n (pc := 44) K dX7_paint_44 rfl ?_
    refine nn_k h (fun a27 hz hq27 => ?_)
    subst hz
    have h := hq27
    refine v_int (pc := 45) (st := []) (As := [.int x2, .int x3]) (b := a27) (ci := 0) (q0 := (RX0, TX0, 3)) K E (fun _ e1 => M_X0_colourAt K.2.2.2.2.2.2.1 _ _ _ _ _ e1) h dX7_paint_45 ce_X0_colourAt cv_X0_colourAt lk_RX7_75 rfl rfl rfl rfl (by decide) rfl rfl (Nat.le_of_ble_eq_true rfl) rfl rfl (by decide) (by decide) (fun x28 h28 h => ?_)
    refine r_istore (pc := 48) (lv' := [some (va_rf (some a0)), some (.int x1), some (.int x2), some (.int x3), some (.int x4), some (va_rf (some a21)), some (.int x28)]) K dX7_paint_48 (by decide) rfl ?_
    refine r_aload (pc := 50) K dX7_paint_50 rfl ?_
    refine r_getR (pc := 52) K dX7_paint_52 fk_RX7_60 h (fun r29 h => ?_)
    refine r_iload_n (pc := 55) K dX7_paint_55 rfl ?_
    refine r_iload_n (pc := 56) K dX7_paint_56 rfl ?_
    refine r_iload (pc := 57) K dX7_paint_57 rfl ?_
    refine nn_k h (fun a30 hz hq30 => ?_)
    subst hz
    have h := hq30
    refine v_void (pc := 59) (st := []) (As := [.int x2, .int x3, .int x4]) (b := a30) (ci := 0) (q0 := (RX0, TX0, 3)) K E (fun _ e1 => M_X0_put K.2.2.2.2.2.2.1 _ _ _ _ _ _ e1) h dX7_paint_59 ce_X0_put cv_X0_put lk_RX7_79 rfl rfl rfl rfl (by decide) rfl rfl (Nat.le_of_ble_eq_true rfl) rfl rfl (by decide) (by decide) (fun _ h31 h => ?_)
    refine r_iload (pc := 62) K dX7_paint_62 rfl ?_
    exact r_ireturn (pc := 64) K hr dX7_paint_64 h (by decide) (by decide)
  · exact r_throw (pc := 20) K E dX7_paint_20 dX7_paint_23 dX7_paint_24 dX7_paint_26 dX7_paint_29 th_RX7_70_74 st_RX7_72 h (Nat.le_of_ble_eq_true rfl) (Nat.le_of_ble_eq_true rfl) (by decide) (by decide) (by decide) (by decide)
def rm_X3_flipsColumns : Room := { frames := 0, cells := 0, slots := 0, locals := 0 }
set_option maxRecDepth 100000 in
set_option maxHeartbeats 4000000 in
theorem M_X3_flipsColumns {D : va_G} {cA : Nat → ClassId} {h0 : Nat} {l : Launch} (hl : l.stackTraces = false) (a0 : Nat) (x1 : Int32) (x2 : Int32) (hp : hpT) (res : (Int32 ⊕ String) × hpT) (h : F_X3_flipsColumns a0 x1 x2 hp = some res) : vx_Met l yX3_flipsColumns (wsm yX3_flipsColumns cX3_flipsColumns 3 (some .boolean)) rm_X3_flipsColumns (va_Pc [va_rf (some a0), .int x1, .int x2] (Pre strL D cA h0 hp)) (QI D cA h0 res) (XE D cA h0 res) 0 0 (Af h0) := by
  unfold F_X3_flipsColumns at h
  refine g_entry (by decide +kernel) hl (cat_c rfl (cat_c rfl (cat_c rfl (cat_n)))) (Nat.le_of_ble_eq_true rfl) (lv := [some (va_rf (some a0)), some (.int x1), some (.int x2)]) rfl ?_
  intro p e s m args below meth c K hr E hn
  have K : Cx strL D cA h0 p l s m args meth c cX3_flipsColumns RX3 3 := K
  refine r_aload_n (pc := 0) K dX3_flipsColumns_0 rfl ?_
  refine r_getI (pc := 1) K dX3_flipsColumns_1 fk_RX3_20 h (fun x21 h => ?_)
  rcases tsw_if h with ⟨c1, h⟩ | ⟨c1, h⟩
  · refine r_tswIn (pc := 4) (off := 36) (tgt := 40) K c1 dX3_flipsColumns_4 (by decide) (by decide) (by decide) (by decide) ?_
    refine r_iload_n (pc := 40) K dX3_flipsColumns_40 rfl ?_
    exact r_zreturn (pc := 41) K hr dX3_flipsColumns_41 h (by decide) (by decide)
  · rcases tsw_if h with ⟨c2, h⟩ | ⟨c2, h⟩
    · refine r_tswIn (pc := 4) (off := 38) (tgt := 42) K c2 dX3_flipsColumns_4 (by decide) (by decide) (by decide) (by decide) ?_
      refine r_iload_n (pc := 42) K dX3_flipsColumns_42 rfl ?_
      exact r_zreturn (pc := 43) K hr dX3_flipsColumns_43 h (by decide) (by decide)
    · rcases tsw_if h with ⟨c3, h⟩ | ⟨c3, h⟩
      · refine r_tswIn (pc := 4) (off := 40) (tgt := 44) K c3 dX3_flipsColumns_4 (by decide) (by decide) (by decide) (by decide) ?_
        refine r_iconst (pc := 44) (v := 0) K dX3_flipsColumns_44 (by decide) ?_
        exact r_zreturn (pc := 45) K hr dX3_flipsColumns_45 h (by decide) (by decide)
      · rcases tsw_if h with ⟨c4, h⟩ | ⟨c4, h⟩
        · refine r_tswIn (pc := 4) (off := 38) (tgt := 42) K c4 dX3_flipsColumns_4 (by decide) (by decide) (by decide) (by decide) ?_
          refine r_iload_n (pc := 42) K dX3_flipsColumns_42 rfl ?_
          exact r_zreturn (pc := 43) K hr dX3_flipsColumns_43 h (by decide) (by decide)
        · rcases tsw_if h with ⟨c5, h⟩ | ⟨c5, h⟩
          · refine r_tswIn (pc := 4) (off := 36) (tgt := 40) K c5 dX3_flipsColumns_4 (by decide) (by decide) (by decide) (by decide) ?_
            refine r_iload_n (pc := 40) K dX3_flipsColumns_40 rfl ?_
            exact r_zreturn (pc := 41) K hr dX3_flipsColumns_41 h (by decide) (by decide)
          · refine r_tswOut (pc := 4) (tgt := 44) K dX3_flipsColumns_4 (by have e1 := lv_neT (a := 1) c1 (by decide); have e2 := lv_neT (a := 2) c2 (by decide); have e3 := lv_neT (a := 3) c3 (by decide); have e4 := lv_neT (a := 4) c4 (by decide); have e5 := lv_neT (a := 5) c5 (by decide); omega) (by decide) ?_
            refine r_iconst (pc := 44) (v := 0) K dX3_flipsColumns_44 (by decide) ?_
            exact r_zreturn (pc := 45) K hr dX3_flipsColumns_45 h (by decide) (by decide)
def rm_X3_flipsRows : Room := { frames := 0, cells := 0, slots := 0, locals := 0 }
set_option maxRecDepth 100000 in
set_option maxHeartbeats 4000000 in
theorem M_X3_flipsRows {D : va_G} {cA : Nat → ClassId} {h0 : Nat} {l : Launch} (hl : l.stackTraces = false) (a0 : Nat) (x1 : Int32) (x2 : Int32) (hp : hpT) (res : (Int32 ⊕ String) × hpT) (h : F_X3_flipsRows a0 x1 x2 hp = some res) : vx_Met l yX3_flipsRows (wsm yX3_flipsRows cX3_flipsRows 3 (some .boolean)) rm_X3_flipsRows (va_Pc [va_rf (some a0), .int x1, .int x2] (Pre strL D cA h0 hp)) (QI D cA h0 res) (XE D cA h0 res) 0 0 (Af h0) := by
  unfold F_X3_flipsRows at h
  refine g_entry (by decide +kernel) hl (cat_c rfl (cat_c rfl (cat_c rfl (cat_n)))) (Nat.le_of_ble_eq_true rfl) (lv := [some (va_rf (some a0)), some (.int x1), some (.int x2)]) rfl ?_
  intro p e s m args below meth c K hr E hn
  have K : Cx strL D cA h0 p l s m args meth c cX3_flipsRows RX3 3 := K
  refine r_aload_n (pc := 0) K dX3_flipsRows_0 rfl ?_
  refine r_getI (pc := 1) K dX3_flipsRows_1 fk_RX3_20 h (fun x21 h => ?_)
  rcases tsw_if h with ⟨c1, h⟩ | ⟨c1, h⟩
  · refine r_tswIn (pc := 4) (off := 36) (tgt := 40) K c1 dX3_flipsRows_4 (by decide) (by decide) (by decide) (by decide) ?_
    refine r_iload_n (pc := 40) K dX3_flipsRows_40 rfl ?_
    exact r_zreturn (pc := 41) K hr dX3_flipsRows_41 h (by decide) (by decide)
  · rcases tsw_if h with ⟨c2, h⟩ | ⟨c2, h⟩
    · refine r_tswIn (pc := 4) (off := 40) (tgt := 44) K c2 dX3_flipsRows_4 (by decide) (by decide) (by decide) (by decide) ?_
      refine r_iconst (pc := 44) (v := 0) K dX3_flipsRows_44 (by decide) ?_
      exact r_zreturn (pc := 45) K hr dX3_flipsRows_45 h (by decide) (by decide)
    · rcases tsw_if h with ⟨c3, h⟩ | ⟨c3, h⟩
      · refine r_tswIn (pc := 4) (off := 38) (tgt := 42) K c3 dX3_flipsRows_4 (by decide) (by decide) (by decide) (by decide) ?_
        refine r_iload_n (pc := 42) K dX3_flipsRows_42 rfl ?_
        exact r_zreturn (pc := 43) K hr dX3_flipsRows_43 h (by decide) (by decide)
      · rcases tsw_if h with ⟨c4, h⟩ | ⟨c4, h⟩
        · refine r_tswIn (pc := 4) (off := 36) (tgt := 40) K c4 dX3_flipsRows_4 (by decide) (by decide) (by decide) (by decide) ?_
          refine r_iload_n (pc := 40) K dX3_flipsRows_40 rfl ?_
          exact r_zreturn (pc := 41) K hr dX3_flipsRows_41 h (by decide) (by decide)
        · rcases tsw_if h with ⟨c5, h⟩ | ⟨c5, h⟩
          · refine r_tswIn (pc := 4) (off := 38) (tgt := 42) K c5 dX3_flipsRows_4 (by decide) (by decide) (by decide) (by decide) ?_
            refine r_iload_n (pc := 42) K dX3_flipsRows_42 rfl ?_
            exact r_zreturn (pc := 43) K hr dX3_flipsRows_43 h (by decide) (by decide)
          · refine r_tswOut (pc := 4) (tgt := 44) K dX3_flipsRows_4 (by have e1 := lv_neT (a := 1) c1 (by decide); have e2 := lv_neT (a := 2) c2 (by decide); have e3 := lv_neT (a := 3) c3 (by decide); have e4 := lv_neT (a := 4) c4 (by decide); have e5 := lv_neT (a := 5) c5 (by decide); omega) (by decide) ?_
            refine r_iconst (pc := 44) (v := 0) K dX3_flipsRows_44 (by decide) ?_
            exact r_zreturn (pc := 45) K hr dX3_flipsRows_45 h (by decide) (by decide)
def rm_X3_colourAt : Room := { frames := 3, cells := 0, slots := 0, locals := 67 }
set_option maxRecDepth 100000 in
set_option maxHeartbeats 4000000 in
theorem B_X3_colourAt_b149 (K : Cx strL D cA h0 p l s m args meth c cX3_colourAt RX3 8) (hr : meth.sig.returnType = (some .int)) (E : ∀ x ∈ c.exceptionTable.toList, False) {res : (Int32 ⊕ String) × hpT} : ∀ (a0 : Nat) (x5 : Int32) (x6 : Int32) (hp : hpT), F_X3_colourAt_b149  a0 x5 x6 hp = some res → G D cA h0 p l e rm_X3_colourAt s m args below meth c 8 (vx_MQ below (QI D cA h0 res) (XE D cA h0 res) args s 0 0 (Af h0)) 0 0 hp 149 [some (va_rf (some a0)), none, none, none, none, some (.int x5), some (.int x6), none] [] := by
  intro a0 x5 x6 hp h
  unfold F_X3_colourAt_b149 at h
  refine r_aload_n (pc := 149) K dX3_colourAt_149 rfl ?_
  refine r_getR (pc := 150) K dX3_colourAt_150 fk_RX3_14 h (fun r21 h => ?_)
  refine r_iload (pc := 153) K dX3_colourAt_153 rfl ?_
  refine r_iload (pc := 155) K dX3_colourAt_155 rfl ?_
  refine nn_k h (fun a22 hz hq22 => ?_)
  subst hz
  have h := hq22
  refine v_int (pc := 157) (st := []) (As := [.int x5, .int x6]) (b := a22) (ci := 0) (q0 := (RX0, TX0, 3)) K E (fun _ e1 => M_X0_colourAt K.2.2.2.2.2.2.1 _ _ _ _ _ e1) h dX3_colourAt_157 ce_X0_colourAt cv_X0_colourAt lk_RX3_47 rfl rfl rfl rfl (by decide) rfl rfl (Nat.le_of_ble_eq_true rfl) rfl rfl (by decide) (by decide) (fun x23 h23 h => ?_)
  exact r_ireturn (pc := 160) K hr dX3_colourAt_160 h (by decide) (by decide)
set_option maxRecDepth 100000 in
set_option maxHeartbeats 4000000 in
theorem B_X3_colourAt_b125 (K : Cx strL D cA h0 p l s m args meth c cX3_colourAt RX3 8) (hr : meth.sig.returnType = (some .int)) (E : ∀ x ∈ c.exceptionTable.toList, False) {res : (Int32 ⊕ String) × hpT} : ∀ (a0 : Nat) (x3 : Int32) (x4 : Int32) (x5 : Int32) (x6 : Int32) (hp : hpT), F_X3_colourAt_b125  a0 x3 x4 x5 x6 hp = some res → G D cA h0 p l e rm_X3_colourAt s m args below meth c 8 (vx_MQ below (QI D cA h0 res) (XE D cA h0 res) args s 0 0 (Af h0)) 0 0 hp 125 [some (va_rf (some a0)), none, none, some (.int x3), some (.int x4), some (.int x5), some (.int x6), none] [] := by
  intro a0 x3 x4 x5 x6 hp h
  unfold F_X3_colourAt_b125 at h
  refine r_aload_n (pc := 125) K dX3_colourAt_125 rfl ?_
  refine r_iload_n (pc := 126) K dX3_colourAt_126 rfl ?_
  refine r_iload (pc := 127) K dX3_colourAt_127 rfl ?_
  refine v_int (pc := 129) (st := []) (As := [.int x3, .int x4]) (b := a0) (ci := 3) (q0 := (RX3, TX3, 4)) K E (fun _ e1 => M_X3_flipsRows K.2.2.2.2.2.2.1 _ _ _ _ _ e1) h dX3_colourAt_129 ce_X3_flipsRows cv_X3_flipsRows lk_RX3_44 rfl rfl rfl rfl (by decide) rfl rfl (Nat.le_of_ble_eq_true rfl) rfl rfl (by decide) (by decide) (fun x24 h24 h => ?_)
  refine r_if_eq (pc := 132) (tgt := 149) K dX3_colourAt_132 (by decide) h (fun h _ => ?_) (fun h _ => ?_)
  · exact r_weak (lv2 := [some (va_rf (some a0)), none, none, none, none, some (.int x5), some (.int x6), none]) ⟨rfl, rfl, rfl, trivial⟩ ((B_X3_colourAt_b149 K hr E  _ _ _ _ h))
  · refine r_aload_n (pc := 135) K dX3_colourAt_135 rfl ?_
    refine r_getR (pc := 136) K dX3_colourAt_136 fk_RX3_14 h (fun r25 h => ?_)
    refine nn_k h (fun a26 hz hq26 => ?_)
    subst hz
    have h := hq26
    refine r_getI (pc := 139) K dX3_colourAt_139 fk_RX3_37 h (fun x27 h => ?_)
    refine r_iconst (pc := 142) (v := 1) K dX3_colourAt_142 (by decide) ?_
    refine r_isub (pc := 143) K dX3_colourAt_143 ?_
    refine r_iload (pc := 144) K dX3_colourAt_144 rfl ?_
    refine r_isub (pc := 146) K dX3_colourAt_146 ?_
    refine r_istore (pc := 147) (lv' := [some (va_rf (some a0)), none, none, some (.int x3), some (.int x4), some (.int x5), some (.int ((x27 - 1) - x6)), none]) K dX3_colourAt_147 (by decide) rfl ?_
    exact r_weak (lv2 := [some (va_rf (some a0)), none, none, none, none, some (.int x5), some (.int ((x27 - 1) - x6)), none]) ⟨rfl, rfl, rfl, trivial⟩ ((B_X3_colourAt_b149 K hr E  _ _ _ _ h))
set_option maxRecDepth 100000 in
set_option maxHeartbeats 4000000 in
theorem B_X3_colourAt_b101 (K : Cx strL D cA h0 p l s m args meth c cX3_colourAt RX3 8) (hr : meth.sig.returnType = (some .int)) (E : ∀ x ∈ c.exceptionTable.toList, False) {res : (Int32 ⊕ String) × hpT} : ∀ (a0 : Nat) (x3 : Int32) (x4 : Int32) (x5 : Int32) (x6 : Int32) (hp : hpT), F_X3_colourAt_b101  a0 x3 x4 x5 x6 hp = some res → G D cA h0 p l e rm_X3_colourAt s m args below meth c 8 (vx_MQ below (QI D cA h0 res) (XE D cA h0 res) args s 0 0 (Af h0)) 0 0 hp 101 [some (va_rf (some a0)), none, none, some (.int x3), some (.int x4), some (.int x5), some (.int x6), none] [] := by
  intro a0 x3 x4 x5 x6 hp h
  unfold F_X3_colourAt_b101 at h
  refine r_aload_n (pc := 101) K dX3_colourAt_101 rfl ?_
  refine r_iload_n (pc := 102) K dX3_colourAt_102 rfl ?_
  refine r_iload (pc := 103) K dX3_colourAt_103 rfl ?_
  refine v_int (pc := 105) (st := []) (As := [.int x3, .int x4]) (b := a0) (ci := 3) (q0 := (RX3, TX3, 4)) K E (fun _ e1 => M_X3_flipsColumns K.2.2.2.2.2.2.1 _ _ _ _ _ e1) h dX3_colourAt_105 ce_X3_flipsColumns cv_X3_flipsColumns lk_RX3_40 rfl rfl rfl rfl (by decide) rfl rfl (Nat.le_of_ble_eq_true rfl) rfl rfl (by decide) (by decide) (fun x28 h28 h => ?_)
  refine r_if_eq (pc := 108) (tgt := 125) K dX3_colourAt_108 (by decide) h (fun h _ => ?_) (fun h _ => ?_)
  · exact r_weak (lv2 := [some (va_rf (some a0)), none, none, some (.int x3), some (.int x4), some (.int x5), some (.int x6), none]) ⟨rfl, rfl, rfl, rfl, rfl, trivial⟩ ((B_X3_colourAt_b125 K hr E  _ _ _ _ _ _ h))
  · refine r_aload_n (pc := 111) K dX3_colourAt_111 rfl ?_
    refine r_getR (pc := 112) K dX3_colourAt_112 fk_RX3_14 h (fun r29 h => ?_)
    refine nn_k h (fun a30 hz hq30 => ?_)
    subst hz
    have h := hq30
    refine r_getI (pc := 115) K dX3_colourAt_115 fk_RX3_34 h (fun x31 h => ?_)
    refine r_iconst (pc := 118) (v := 1) K dX3_colourAt_118 (by decide) ?_
    refine r_isub (pc := 119) K dX3_colourAt_119 ?_
    refine r_iload (pc := 120) K dX3_colourAt_120 rfl ?_
    refine r_isub (pc := 122) K dX3_colourAt_122 ?_
    refine r_istore (pc := 123) (lv' := [some (va_rf (some a0)), none, none, some (.int x3), some (.int x4), some (.int ((x31 - 1) - x5)), some (.int x6), none]) K dX3_colourAt_123 (by decide) rfl ?_
    exact r_weak (lv2 := [some (va_rf (some a0)), none, none, some (.int x3), some (.int x4), some (.int ((x31 - 1) - x5)), some (.int x6), none]) ⟨rfl, rfl, rfl, rfl, rfl, trivial⟩ ((B_X3_colourAt_b125 K hr E  _ _ _ _ _ _ h))
set_option maxRecDepth 100000 in
set_option maxHeartbeats 4000000 in
theorem B_X3_colourAt_b47 (K : Cx strL D cA h0 p l s m args meth c cX3_colourAt RX3 8) (hr : meth.sig.returnType = (some .int)) (E : ∀ x ∈ c.exceptionTable.toList, False) {res : (Int32 ⊕ String) × hpT} : ∀ (a0 : Nat) (x1 : Int32) (x2 : Int32) (x3 : Int32) (xs0 : Int32) (hp : hpT), F_X3_colourAt_b47  a0 x1 x2 x3 xs0 hp = some res → G D cA h0 p l e rm_X3_colourAt s m args below meth c 8 (vx_MQ below (QI D cA h0 res) (XE D cA h0 res) args s 0 0 (Af h0)) 0 0 hp 47 [some (va_rf (some a0)), some (.int x1), some (.int x2), some (.int x3), none, none, none, none] [.int xs0] := by
  intro a0 x1 x2 x3 xs0 hp h
  unfold F_X3_colourAt_b47 at h
  refine r_istore (pc := 47) (lv' := [some (va_rf (some a0)), some (.int x1), some (.int x2), some (.int x3), some (.int xs0), none, none, none]) K dX3_colourAt_47 (by decide) rfl ?_
  refine r_iload_n (pc := 49) K dX3_colourAt_49 rfl ?_
  refine r_aload_n (pc := 50) K dX3_colourAt_50 rfl ?_
  refine r_getR (pc := 51) K dX3_colourAt_51 fk_RX3_14 h (fun r32 h => ?_)
  refine nn_k h (fun a33 hz hq33 => ?_)
  subst hz
  have h := hq33
  refine r_getI (pc := 54) K dX3_colourAt_54 fk_RX3_34 h (fun x34 h => ?_)
  refine s_int (pc := 57) (st := []) (As := [.int x1, .int x34]) K E (fun _ e1 => M_X7_wrapped K.2.2.2.2.2.2.1 _ _ _ _ e1) h dX3_colourAt_57 ce_X7_wrapped cs_X7_wrapped lk_RX3_30 rfl rfl (by decide) rfl rfl (Nat.le_of_ble_eq_true rfl) rfl rfl (by decide) (by decide) (fun x35 h35 h => ?_)
  refine r_istore (pc := 60) (lv' := [some (va_rf (some a0)), some (.int x1), some (.int x2), some (.int x3), some (.int xs0), some (.int x35), none, none]) K dX3_colourAt_60 (by decide) rfl ?_
  refine r_iload_n (pc := 62) K dX3_colourAt_62 rfl ?_
  refine r_aload_n (pc := 63) K dX3_colourAt_63 rfl ?_
  refine r_getR (pc := 64) K dX3_colourAt_64 fk_RX3_14 h (fun r36 h => ?_)
  refine nn_k h (fun a37 hz hq37 => ?_)
  subst hz
  have h := hq37
  refine r_getI (pc := 67) K dX3_colourAt_67 fk_RX3_37 h (fun x38 h => ?_)
  refine s_int (pc := 70) (st := []) (As := [.int x2, .int x38]) K E (fun _ e1 => M_X7_wrapped K.2.2.2.2.2.2.1 _ _ _ _ e1) h dX3_colourAt_70 ce_X7_wrapped cs_X7_wrapped lk_RX3_30 rfl rfl (by decide) rfl rfl (Nat.le_of_ble_eq_true rfl) rfl rfl (by decide) (by decide) (fun x39 h39 h => ?_)
  refine r_istore (pc := 73) (lv' := [some (va_rf (some a0)), some (.int x1), some (.int x2), some (.int x3), some (.int xs0), some (.int x35), some (.int x39), none]) K dX3_colourAt_73 (by decide) rfl ?_
  refine r_aload_n (pc := 75) K dX3_colourAt_75 rfl ?_
  refine r_getI (pc := 76) K dX3_colourAt_76 fk_RX3_20 h (fun x40 h => ?_)
  refine r_iconst (pc := 79) (v := 5) K dX3_colourAt_79 (by decide) ?_
  refine r_icmp_ne (pc := 80) (tgt := 101) K dX3_colourAt_80 (by decide) h (fun h _ => ?_) (fun h _ => ?_)
  · exact r_weak (lv2 := [some (va_rf (some a0)), none, none, some (.int x3), some (.int xs0), some (.int x35), some (.int x39), none]) ⟨rfl, rfl, rfl, rfl, rfl, trivial⟩ ((B_X3_colourAt_b101 K hr E  _ _ _ _ _ _ h))
  · refine r_iload_n (pc := 83) K dX3_colourAt_83 rfl ?_
    refine r_iload (pc := 84) K dX3_colourAt_84 rfl ?_
    refine r_icmp_eq (pc := 86) (tgt := 101) K dX3_colourAt_86 (by decide) h (fun h _ => ?_) (fun h _ => ?_)
    · exact r_weak (lv2 := [some (va_rf (some a0)), none, none, some (.int x3), some (.int xs0), some (.int x35), some (.int x39), none]) ⟨rfl, rfl, rfl, rfl, rfl, trivial⟩ ((B_X3_colourAt_b101 K hr E  _ _ _ _ _ _ h))
    · refine r_iload (pc := 89) K dX3_colourAt_89 rfl ?_
      refine r_istore (pc := 91) (lv' := [some (va_rf (some a0)), some (.int x1), some (.int x2), some (.int x3), some (.int xs0), some (.int x35), some (.int x39), some (.int x35)]) K dX3_colourAt_91 (by decide) rfl ?_
      refine r_iload (pc := 93) K dX3_colourAt_93 rfl ?_
      refine r_istore (pc := 95) (lv' := [some (va_rf (some a0)), some (.int x1), some (.int x2), some (.int x3), some (.int xs0), some (.int x39), some (.int x39), some (.int x35)]) K dX3_colourAt_95 (by decide) rfl ?_
      refine r_iload (pc := 97) K dX3_colourAt_97 rfl ?_
      refine r_istore (pc := 99) (lv' := [some (va_rf (some a0)), some (.int x1), some (.int x2), some (.int x3), some (.int xs0), some (.int x39), some (.int x35), some (.int x35)]) K dX3_colourAt_99 (by decide) rfl ?_
      exact r_weak (lv2 := [some (va_rf (some a0)), none, none, some (.int x3), some (.int xs0), some (.int x39), some (.int x35), none]) ⟨rfl, rfl, rfl, rfl, rfl, trivial⟩ ((B_X3_colourAt_b101 K hr E  _ _ _ _ _ _ h))
set_option maxRecDepth 100000 in
set_option maxHeartbeats 4000000 in
theorem B_X3_colourAt_b23 (K : Cx strL D cA h0 p l s m args meth c cX3_colourAt RX3 8) (hr : meth.sig.returnType = (some .int)) (E : ∀ x ∈ c.exceptionTable.toList, False) {res : (Int32 ⊕ String) × hpT} : ∀ (a0 : Nat) (x1 : Int32) (x2 : Int32) (xs0 : Int32) (hp : hpT), F_X3_colourAt_b23  a0 x1 x2 xs0 hp = some res → G D cA h0 p l e rm_X3_colourAt s m args below meth c 8 (vx_MQ below (QI D cA h0 res) (XE D cA h0 res) args s 0 0 (Af h0)) 0 0 hp 23 [some (va_rf (some a0)), some (.int x1), some (.int x2), none, none, none, none, none] [.int xs0] := by
  intro a0 x1 x2 xs0 hp h
  unfold F_X3_colourAt_b23 at h
  refine r_istore_n (pc := 23) (lv' := [some (va_rf (some a0)), some (.int x1), some (.int x2), some (.int xs0), none, none, none, none]) K dX3_colourAt_23 (by decide) rfl ?_
  refine r_iload_n (pc := 24) K dX3_colourAt_24 rfl ?_
  refine r_aload_n (pc := 25) K dX3_colourAt_25 rfl ?_
  refine r_getI (pc := 26) K dX3_colourAt_26 fk_RX3_27 h (fun x41 h => ?_)
  refine s_int (pc := 29) (st := []) (As := [.int x2, .int x41]) K E (fun _ e1 => M_X7_wrapped K.2.2.2.2.2.2.1 _ _ _ _ e1) h dX3_colourAt_29 ce_X7_wrapped cs_X7_wrapped lk_RX3_30 rfl rfl (by decide) rfl rfl (Nat.le_of_ble_eq_true rfl) rfl rfl (by decide) (by decide) (fun x42 h42 h => ?_)
  refine r_aload_n (pc := 32) K dX3_colourAt_32 rfl ?_
  refine r_getR (pc := 33) K dX3_colourAt_33 fk_RX3_14 h (fun r43 h => ?_)
  refine nn_k h (fun a44 hz hq44 => ?_)
  subst hz
  have h := hq44
  refine r_getI (pc := 36) K dX3_colourAt_36 fk_RX3_37 h (fun x45 h => ?_)
  refine r_icmp_lt (pc := 39) (tgt := 46) K dX3_colourAt_39 (by decide) h (fun h _ => ?_) (fun h _ => ?_)
  · refine r_iconst (pc := 46) (v := 0) K dX3_colourAt_46 (by decide) ?_
    exact r_weak (lv2 := [some (va_rf (some a0)), some (.int x1), some (.int x2), some (.int xs0), none, none, none, none]) ⟨rfl, rfl, rfl, rfl, trivial⟩ ((B_X3_colourAt_b47 K hr E  _ _ _ _ _ _ h))
  · refine r_iconst (pc := 42) (v := 1) K dX3_colourAt_42 (by decide) ?_
    refine r_goto (pc := 43) (tgt := 47) K dX3_colourAt_43 (by decide) ?_
    exact r_weak (lv2 := [some (va_rf (some a0)), some (.int x1), some (.int x2), some (.int xs0), none, none, none, none]) ⟨rfl, rfl, rfl, rfl, trivial⟩ ((B_X3_colourAt_b47 K hr E  _ _ _ _ _ _ h))
set_option maxRecDepth 100000 in
set_option maxHeartbeats 4000000 in
theorem M_X3_colourAt {D : va_G} {cA : Nat → ClassId} {h0 : Nat} {l : Launch} (hl : l.stackTraces = false) (a0 : Nat) (x1 : Int32) (x2 : Int32) (hp : hpT) (res : (Int32 ⊕ String) × hpT) (h : F_X3_colourAt a0 x1 x2 hp = some res) : vx_Met l yX3_colourAt (wsm yX3_colourAt cX3_colourAt 8 (some .int)) rm_X3_colourAt (va_Pc [va_rf (some a0), .int x1, .int x2] (Pre strL D cA h0 hp)) (QI D cA h0 res) (XE D cA h0 res) 0 0 (Af h0) := by
  unfold F_X3_colourAt at h
  refine g_entry (by decide +kernel) hl (cat_c rfl (cat_c rfl (cat_c rfl (cat_n)))) (Nat.le_of_ble_eq_true rfl) (lv := [some (va_rf (some a0)), some (.int x1), some (.int x2), none, none, none, none, none]) rfl ?_
  intro p e s m args below meth c K hr E hn
  have K : Cx strL D cA h0 p l s m args meth c cX3_colourAt RX3 8 := K
  refine r_iload_n (pc := 0) K dX3_colourAt_0 rfl ?_
  refine r_aload_n (pc := 1) K dX3_colourAt_1 rfl ?_
  refine r_getI (pc := 2) K dX3_colourAt_2 fk_RX3_24 h (fun x46 h => ?_)
  refine s_int (pc := 5) (st := []) (As := [.int x1, .int x46]) K E (fun _ e1 => M_X7_wrapped K.2.2.2.2.2.2.1 _ _ _ _ e1) h dX3_colourAt_5 ce_X7_wrapped cs_X7_wrapped lk_RX3_30 rfl rfl (by decide) rfl rfl (Nat.le_of_ble_eq_true rfl) rfl rfl (by decide) (by decide) (fun x47 h47 h => ?_)
  refine r_aload_n (pc := 8) K dX3_colourAt_8 rfl ?_
  refine r_getR (pc := 9) K dX3_colourAt_9 fk_RX3_14 h (fun r48 h => ?_)
  refine nn_k h (fun a49 hz hq49 => ?_)
  subst hz
  have h := hq49
  refine r_getI (pc := 12) K dX3_colourAt_12 fk_RX3_34 h (fun x50 h => ?_)
  refine r_icmp_lt (pc := 15) (tgt := 22) K dX3_colourAt_15 (by decide) h (fun h _ => ?_) (fun h _ => ?_)
  · refine r_iconst (pc := 22) (v := 0) K dX3_colourAt_22 (by decide) ?_
    exact r_weak (lv2 := [some (va_rf (some a0)), some (.int x1), some (.int x2), none, none, none, none, none]) ⟨rfl, rfl, rfl, trivial⟩ ((B_X3_colourAt_b23 K hr E  _ _ _ _ _ h))
  · refine r_iconst (pc := 18) (v := 1) K dX3_colourAt_18 (by decide) ?_
    refine r_goto (pc := 19) (tgt := 23) K dX3_colourAt_19 (by decide) ?_
    exact r_weak (lv2 := [some (va_rf (some a0)), some (.int x1), some (.int x2), none, none, none, none, none]) ⟨rfl, rfl, rfl, trivial⟩ ((B_X3_colourAt_b23 K hr E  _ _ _ _ _ h))
def rm_X7_colour : Room := { frames := 7, cells := 1, slots := 6, locals := 112 }
set_option maxRecDepth 100000 in
set_option maxHeartbeats 4000000 in
theorem M_X7_colour {D : va_G} {cA : Nat → ClassId} {h0 : Nat} {l : Launch} (hl : l.stackTraces = false) (a0 : Nat) (x1 : Int32) (x2 : Int32) (x3 : Int32) (hp : hpT) (res : (Int32 ⊕ String) × hpT) (h : F_X7_colour a0 x1 x2 x3 hp = some res) : vx_Met l yX7_colour (wsm yX7_colour cX7_colour 4 (some .int)) rm_X7_colour (va_Pc [va_rf (some a0), .int x1, .int x2, .int x3] (Pre strL D cA h0 hp)) (QI D cA h0 res) (XE D cA h0 res) 1 6 (Af h0) := by
  unfold F_X7_colour at h
  refine g_entry (by decide +kernel) hl (cat_c rfl (cat_c rfl (cat_c rfl (cat_c rfl (cat_n))))) (Nat.le_of_ble_eq_true rfl) (lv := [some (va_rf (some a0)), some (.int x1), some (.int x2), some (.int x3)]) rfl ?_
  intro p e s m args below meth c K hr E hn
  have K : Cx strL D cA h0 p l s m args meth c cX7_colour RX7 4 := K
  refine r_aload_n (pc := 0) K dX7_colour_0 rfl ?_
  refine r_iload_n (pc := 1) K dX7_colour_1 rfl ?_
  refine v_ref (pc := 2) (st := []) (As := [.int x1]) (b := a0) (ci := 7) (q0 := (RX7, TX7, 8)) K E (fun _ e1 => M_X7_patternAt K.2.2.2.2.2.2.1 _ _ _ _ e1) h dX7_colour_2 ce_X7_patternAt cv_X7_patternAt lk_RX7_56 rfl rfl rfl rfl (by decide) rfl rfl (Nat.le_of_ble_eq_true rfl) rfl rfl (by decide) (by decide) (fun a21 h21 h => ?_)
  refine r_iload_n (pc := 5) K dX7_colour_5 rfl ?_
  refine r_iload_n (pc := 6) K dX7_colour_6 rfl ?_
  refine v_int (pc := 7) (st := []) (As := [.int x2, .int x3]) (b := a21) (ci := 3) (q0 := (RX3, TX3, 4)) K E (fun _ e1 => M_X3_colourAt K.2.2.2.2.2.2.1 _ _ _ _ _ e1) h dX7_colour_7 ce_X3_colourAt cv_X3_colourAt lk_RX7_82 rfl rfl rfl rfl (by decide) rfl rfl (Nat.le_of_ble_eq_true rfl) rfl rfl (by decide) (by decide) (fun x22 h22 h => ?_)
  exact r_ireturn (pc := 10) K hr dX7_colour_10 h (by decide) (by decide)
def rm_X7_repeat : Room := { frames := 7, cells := 1, slots := 6, locals := 112 }
set_option maxRecDepth 100000 in
set_option maxHeartbeats 4000000 in
theorem M_X7_repeat {D : va_G} {cA : Nat → ClassId} {h0 : Nat} {l : Launch} (hl : l.stackTraces = false) (a0 : Nat) (x1 : Int32) (x2 : Int32) (hp : hpT) (res : (Int32 ⊕ String) × hpT) (h : F_X7_repeat a0 x1 x2 hp = some res) : vx_Met l yX7_repeat (wsm yX7_repeat cX7_repeat 4 (some .int)) rm_X7_repeat (va_Pc [va_rf (some a0), .int x1, .int x2] (Pre strL D cA h0 hp)) (QI D cA h0 res) (XE D cA h0 res) 1 6 (Af h0) := by
  unfold F_X7_repeat at h
  refine g_entry (by decide +kernel) hl (cat_c rfl (cat_c rfl (cat_c rfl (cat_n)))) (Nat.le_of_ble_eq_true rfl) (lv := [some (va_rf (some a0)), some (.int x1), some (.int x2), none]) rfl ?_
  intro p e s m args below meth c K hr E hn
  have K : Cx strL D cA h0 p l s m args meth c cX7_repeat RX7 4 := K
  refine r_aload_n (pc := 0) K dX7_repeat_0 rfl ?_
  refine r_iload_n (pc := 1) K dX7_repeat_1 rfl ?_
  refine v_ref (pc := 2) (st := []) (As := [.int x1]) (b := a0) (ci := 7) (q0 := (RX7, TX7, 8)) K E (fun _ e1 => M_X7_patternAt K.2.2.2.2.2.2.1 _ _ _ _ e1) h dX7_repeat_2 ce_X7_patternAt cv_X7_patternAt lk_RX7_56 rfl rfl rfl rfl (by decide) rfl rfl (Nat.le_of_ble_eq_true rfl) rfl rfl (by decide) (by decide) (fun a21 h21 h => ?_)
  refine r_astore_n (pc := 5) (lv' := [some (va_rf (some a0)), some (.int x1), some (.int x2), some (va_rf (some a21))]) K dX7_repeat_5 (by decide) rfl ?_
  refine r_iload_n (pc := 6) K dX7_repeat_6 rfl ?_
  refine r_if_eq (pc := 7) (tgt := 17) K dX7_repeat_7 (by decide) h (fun h _ => ?_) (fun h _ => ?_)
  · refine r_aload_n (pc := 17) K dX7_repeat_17 rfl ?_
    refine r_getI (pc := 18) K dX7_repeat_18 fk_RX7_86 h (fun x22 h => ?_)
    exact r_ireturn (pc := 21) K hr dX7_repeat_21 h (by decide) (by decide)
  · refine r_aload_n (pc := 10) K dX7_repeat_10 rfl ?_
    refine r_getI (pc := 11) K dX7_repeat_11 fk_RX7_83 h (fun x23 h => ?_)
    refine r_goto (pc := 14) (tgt := 21) K dX7_repeat_14 (by decide) ?_
    exact r_ireturn (pc := 21) K hr dX7_repeat_21 h (by decide) (by decide)
def rm_X3_staysWhenMoved : Room := { frames := 4, cells := 0, slots := 0, locals := 94 }
set_option maxRecDepth 100000 in
set_option maxHeartbeats 4000000 in
theorem B_X3_staysWhenMoved_b13 (K : Cx strL D cA h0 p l s m args meth c cX3_staysWhenMoved RX3 5) (hr : meth.sig.returnType = (some .boolean)) (E : ∀ x ∈ c.exceptionTable.toList, False) {res : (Int32 ⊕ String) × hpT} {K2 : Nat → Int32 → Int32 → Int32 → hpT → Rs Int32} (hK2 : ∀ (a0 : Nat) (x1 : Int32) (x2 : Int32) (x3 : Int32) (hp : hpT), K2 a0 x1 x2 x3 hp = some res → G D cA h0 p l e rm_X3_staysWhenMoved s m args below meth c 5 (vx_MQ below (QI D cA h0 res) (XE D cA h0 res) args s 0 0 (Af h0)) 0 0 hp 2 [some (va_rf (some a0)), some (.int x1), some (.int x2), some (.int x3), none] []) : ∀ (n : Nat) (a0 : Nat) (x1 : Int32) (x2 : Int32) (x3 : Int32) (x4 : Int32) (hp : hpT), F_X3_staysWhenMoved_b13 K2 n a0 x1 x2 x3 x4 hp = some res → G D cA h0 p l e rm_X3_staysWhenMoved s m args below meth c 5 (vx_MQ below (QI D cA h0 res) (XE D cA h0 res) args s 0 0 (Af h0)) 0 0 hp 13 [some (va_rf (some a0)), some (.int x1), some (.int x2), some (.int x3), some (.int x4)] [] := by
  intro n
  induction n with
  | zero => intro a0 x1 x2 x3 x4 hp h; cases h
  | succ n ih =>
    intro a0 x1 x2 x3 x4 hp h
    rw [F_X3_staysWhenMoved_b13] at h
    refine r_iload (pc := 13) K dX3_staysWhenMoved_13 rfl ?_
    refine r_aload_n (pc := 15) K dX3_staysWhenMoved_15 rfl ?_
    refine r_getI (pc := 16) K dX3_staysWhenMoved_16 fk_RX3_24 h (fun x21 h => ?_)
    refine r_icmp_ge (pc := 19) (tgt := 51) K dX3_staysWhenMoved_19 (by decide) h (fun h _ => ?_) (fun h _ => ?_)
    · refine r_iinc (pc := 51) (v := (x3 + 1)) (lv' := [some (va_rf (some a0)), some (.int x1), some (.int x2), some (.int (x3 + 1)), some (.int x4)]) K dX3_staysWhenMoved_51 rfl rfl (by decide) rfl ?_
      refine r_goto (pc := 54) (tgt := 2) K dX3_staysWhenMoved_54 (by decide) ?_
      exact r_weak (lv2 := [some (va_rf (some a0)), some (.int x1), some (.int x2), some (.int (x3 + 1)), none]) ⟨rfl, rfl, rfl, rfl, trivial⟩ ((hK2 _ _ _ _ _ h))
    · refine r_aload_n (pc := 22) K dX3_staysWhenMoved_22 rfl ?_
      refine r_iload (pc := 23) K dX3_staysWhenMoved_23 rfl ?_
      refine r_iload_n (pc := 25) K dX3_staysWhenMoved_25 rfl ?_
      refine v_int (pc := 26) (st := []) (As := [.int x4, .int x3]) (b := a0) (ci := 3) (q0 := (RX3, TX3, 4)) K E (fun _ e1 => M_X3_colourAt K.2.2.2.2.2.2.1 _ _ _ _ _ e1) h dX3_staysWhenMoved_26 ce_X3_colourAt cv_X3_colourAt lk_RX3_54 rfl rfl rfl rfl (by decide) rfl rfl (Nat.le_of_ble_eq_true rfl) rfl rfl (by decide) (by decide) (fun x22 h22 h => ?_)
      refine r_aload_n (pc := 29) K dX3_staysWhenMoved_29 rfl ?_
      refine r_iload (pc := 30) K dX3_staysWhenMoved_30 rfl ?_
      refine r_iload_n (pc := 32) K dX3_staysWhenMoved_32 rfl ?_
      refine r_iadd (pc := 33) K dX3_staysWhenMoved_33 ?_
      refine r_iload_n (pc := 34) K dX3_staysWhenMoved_34 rfl ?_
      refine r_iload_n (pc := 35) K dX3_staysWhenMoved_35 rfl ?_
      refine r_iadd (pc := 36) K dX3_staysWhenMoved_36 ?_
      refine v_int (pc := 37) (st := [.int x22]) (As := [.int (x4 + x1), .int (x3 + x2)]) (b := a0) (ci := 3) (q0 := (RX3, TX3, 4)) K E (fun _ e1 => M_X3_colourAt K.2.2.2.2.2.2.1 _ _ _ _ _ e1) h dX3_staysWhenMoved_37 ce_X3_colourAt cv_X3_colourAt lk_RX3_54 rfl rfl rfl rfl (by decide) rfl rfl (Nat.le_of_ble_eq_true rfl) rfl rfl (by decide) (by decide) (fun x23 h23 h => ?_)
      refine r_icmp_eq (pc := 40) (tgt := 45) K dX3_staysWhenMoved_40 (by decide) h (fun h _ => ?_) (fun h _ => ?_)
      · refine r_iinc (pc := 45) (v := (x4 + 1)) (lv' := [some (va_rf (some a0)), some (.int x1), some (.int x2), some (.int x3), some (.int (x4 + 1))]) K dX3_staysWhenMoved_45 rfl rfl (by decide) rfl ?_
        refine r_goto (pc := 48) (tgt := 13) K dX3_staysWhenMoved_48 (by decide) ?_
        exact r_weak (lv2 := [some (va_rf (some a0)), some (.int x1), some (.int x2), some (.int x3), some (.int (x4 + 1))]) ⟨rfl, rfl, rfl, rfl, rfl, trivial⟩ ((ih _ _ _ _ _ _ h))
      · refine r_iconst (pc := 43) (v := 0) K dX3_staysWhenMoved_43 (by decide) ?_
        exact r_zreturn (pc := 44) K hr dX3_staysWhenMoved_44 h (by decide) (by decide)
set_option maxRecDepth 100000 in
set_option maxHeartbeats 4000000 in
theorem B_X3_staysWhenMoved_b2 (K : Cx strL D cA h0 p l s m args meth c cX3_staysWhenMoved RX3 5) (hr : meth.sig.returnType = (some .boolean)) (E : ∀ x ∈ c.exceptionTable.toList, False) {res : (Int32 ⊕ String) × hpT} : ∀ (n : Nat) (a0 : Nat) (x1 : Int32) (x2 : Int32) (x3 : Int32) (hp : hpT), F_X3_staysWhenMoved_b2  n a0 x1 x2 x3 hp = some res → G D cA h0 p l e rm_X3_staysWhenMoved s m args below meth c 5 (vx_MQ below (QI D cA h0 res) (XE D cA h0 res) args s 0 0 (Af h0)) 0 0 hp 2 [some (va_rf (some a0)), some (.int x1), some (.int x2), some (.int x3), none] [] := by
  intro n
  induction n with
  | zero => intro a0 x1 x2 x3 hp h; cases h
  | succ n ih =>
    intro a0 x1 x2 x3 hp h
    rw [F_X3_staysWhenMoved_b2] at h
    refine r_iload_n (pc := 2) K dX3_staysWhenMoved_2 rfl ?_
    refine r_aload_n (pc := 3) K dX3_staysWhenMoved_3 rfl ?_
    refine r_getI (pc := 4) K dX3_staysWhenMoved_4 fk_RX3_27 h (fun x24 h => ?_)
    refine r_icmp_ge (pc := 7) (tgt := 57) K dX3_staysWhenMoved_7 (by decide) h (fun h _ => ?_) (fun h _ => ?_)
    · refine r_iconst (pc := 57) (v := 1) K dX3_staysWhenMoved_57 (by decide) ?_
      exact r_zreturn (pc := 58) K hr dX3_staysWhenMoved_58 h (by decide) (by decide)
    · refine r_iconst (pc := 10) (v := 0) K dX3_staysWhenMoved_10 (by decide) ?_
      refine r_istore (pc := 11) (lv' := [some (va_rf (some a0)), some (.int x1), some (.int x2), some (.int x3), some (.int 0)]) K dX3_staysWhenMoved_11 (by decide) rfl ?_
      exact r_weak (lv2 := [some (va_rf (some a0)), some (.int x1), some (.int x2), some (.int x3), some (.int 0)]) ⟨rfl, rfl, rfl, rfl, rfl, trivial⟩ ((B_X3_staysWhenMoved_b13 K hr E ih 1000 _ _ _ _ _ _ h))
set_option maxRecDepth 100000 in
set_option maxHeartbeats 4000000 in
theorem M_X3_staysWhenMoved {D : va_G} {cA : Nat → ClassId} {h0 : Nat} {l : Launch} (hl : l.stackTraces = false) (a0 : Nat) (x1 : Int32) (x2 : Int32) (hp : hpT) (res : (Int32 ⊕ String) × hpT) (h : F_X3_staysWhenMoved a0 x1 x2 hp = some res) : vx_Met l yX3_staysWhenMoved (wsm yX3_staysWhenMoved cX3_staysWhenMoved 5 (some .boolean)) rm_X3_staysWhenMoved (va_Pc [va_rf (some a0), .int x1, .int x2] (Pre strL D cA h0 hp)) (QI D cA h0 res) (XE D cA h0 res) 0 0 (Af h0) := by
  unfold F_X3_staysWhenMoved at h
  refine g_entry (by decide +kernel) hl (cat_c rfl (cat_c rfl (cat_c rfl (cat_n)))) (Nat.le_of_ble_eq_true rfl) (lv := [some (va_rf (some a0)), some (.int x1), some (.int x2), none, none]) rfl ?_
  intro p e s m args below meth c K hr E hn
  have K : Cx strL D cA h0 p l s m args meth c cX3_staysWhenMoved RX3 5 := K
  refine r_iconst (pc := 0) (v := 0) K dX3_staysWhenMoved_0 (by decide) ?_
  refine r_istore_n (pc := 1) (lv' := [some (va_rf (some a0)), some (.int x1), some (.int x2), some (.int 0), none]) K dX3_staysWhenMoved_1 (by decide) rfl ?_
  exact r_weak (lv2 := [some (va_rf (some a0)), some (.int x1), some (.int x2), some (.int 0), none]) ⟨rfl, rfl, rfl, rfl, trivial⟩ ((B_X3_staysWhenMoved_b2 K hr E 1000 _ _ _ _ _ h))
def rm_X3_leastMove : Room := { frames := 5, cells := 0, slots := 0, locals := 118 }
set_option maxRecDepth 100000 in
set_option maxHeartbeats 4000000 in
theorem B_X3_leastMove_b50 (K : Cx strL D cA h0 p l s m args meth c cX3_leastMove RX3 4) (hr : meth.sig.returnType = (some .int)) (E : ∀ x ∈ c.exceptionTable.toList, False) {res : (Int32 ⊕ String) × hpT} {K18 : Nat → Int32 → Int32 → Int32 → hpT → Rs Int32} (hK18 : ∀ (a0 : Nat) (x1 : Int32) (x2 : Int32) (x3 : Int32) (hp : hpT), K18 a0 x1 x2 x3 hp = some res → G D cA h0 p l e rm_X3_leastMove s m args below meth c 4 (vx_MQ below (QI D cA h0 res) (XE D cA h0 res) args s 0 0 (Af h0)) 0 0 hp 18 [some (va_rf (some a0)), some (.int x1), some (.int x2), some (.int x3)] []) : ∀ (a0 : Nat) (x1 : Int32) (x2 : Int32) (x3 : Int32) (hp : hpT), F_X3_leastMove_b50 K18 a0 x1 x2 x3 hp = some res → G D cA h0 p l e rm_X3_leastMove s m args below meth c 4 (vx_MQ below (QI D cA h0 res) (XE D cA h0 res) args s 0 0 (Af h0)) 0 0 hp 50 [some (va_rf (some a0)), some (.int x1), some (.int x2), some (.int x3)] [] := by
  intro a0 x1 x2 x3 hp h
  unfold F_X3_leastMove_b50 at h
  refine r_iinc (pc := 50) (v := (x3 + 1)) (lv' := [some (va_rf (some a0)), some (.int x1), some (.int x2), some (.int (x3 + 1))]) K dX3_leastMove_50 rfl rfl (by decide) rfl ?_
  refine r_goto (pc := 53) (tgt := 18) K dX3_leastMove_53 (by decide) ?_
  exact r_weak (lv2 := [some (va_rf (some a0)), some (.int x1), some (.int x2), some (.int (x3 + 1))]) ⟨rfl, rfl, rfl, rfl, trivial⟩ ((hK18 _ _ _ _ _ h))
set_option maxRecDepth 100000 in
set_option maxHeartbeats 4000000 in
theorem B_X3_leastMove_b18 (K : Cx strL D cA h0 p l s m args meth c cX3_leastMove RX3 4) (hr : meth.sig.returnType = (some .int)) (E : ∀ x ∈ c.exceptionTable.toList, False) {res : (Int32 ⊕ String) × hpT} : ∀ (n : Nat) (a0 : Nat) (x1 : Int32) (x2 : Int32) (x3 : Int32) (hp : hpT), F_X3_leastMove_b18  n a0 x1 x2 x3 hp = some res → G D cA h0 p l e rm_X3_leastMove s m args below meth c 4 (vx_MQ below (QI D cA h0 res) (XE D cA h0 res) args s 0 0 (Af h0)) 0 0 hp 18 [some (va_rf (some a0)), some (.int x1), some (.int x2), some (.int x3)] [] := by
  intro n
  induction n with
  | zero => intro a0 x1 x2 x3 hp h; cases h
  | succ n ih =>
    intro a0 x1 x2 x3 hp h
    rw [F_X3_leastMove_b18] at h
    refine r_iload_n (pc := 18) K dX3_leastMove_18 rfl ?_
    refine r_iload_n (pc := 19) K dX3_leastMove_19 rfl ?_
    refine r_icmp_ge (pc := 20) (tgt := 56) K dX3_leastMove_20 (by decide) h (fun h _ => ?_) (fun h _ => ?_)
    · refine r_iload_n (pc := 56) K dX3_leastMove_56 rfl ?_
      exact r_ireturn (pc := 57) K hr dX3_leastMove_57 h (by decide) (by decide)
    · refine r_iload_n (pc := 23) K dX3_leastMove_23 rfl ?_
      refine r_if_eq (pc := 24) (tgt := 39) K dX3_leastMove_24 (by decide) h (fun h _ => ?_) (fun h _ => ?_)
      · refine r_aload_n (pc := 39) K dX3_leastMove_39 rfl ?_
        refine r_iload_n (pc := 40) K dX3_leastMove_40 rfl ?_
        refine r_iconst (pc := 41) (v := 0) K dX3_leastMove_41 (by decide) ?_
        refine v_int (pc := 42) (st := []) (As := [.int x3, .int 0]) (b := a0) (ci := 3) (q0 := (RX3, TX3, 4)) K E (fun _ e1 => M_X3_staysWhenMoved K.2.2.2.2.2.2.1 _ _ _ _ _ e1) h dX3_leastMove_42 ce_X3_staysWhenMoved cv_X3_staysWhenMoved lk_RX3_50 rfl rfl rfl rfl (by decide) rfl rfl (Nat.le_of_ble_eq_true rfl) rfl rfl (by decide) (by decide) (fun x21 h21 h => ?_)
        refine r_if_eq (pc := 45) (tgt := 50) K dX3_leastMove_45 (by decide) h (fun h _ => ?_) (fun h _ => ?_)
        · exact r_weak (lv2 := [some (va_rf (some a0)), some (.int x1), some (.int x2), some (.int x3)]) ⟨rfl, rfl, rfl, rfl, trivial⟩ ((B_X3_leastMove_b50 K hr E ih  _ _ _ _ _ h))
        · refine r_iload_n (pc := 48) K dX3_leastMove_48 rfl ?_
          exact r_ireturn (pc := 49) K hr dX3_leastMove_49 h (by decide) (by decide)
      · refine r_aload_n (pc := 27) K dX3_leastMove_27 rfl ?_
        refine r_iconst (pc := 28) (v := 0) K dX3_leastMove_28 (by decide) ?_
        refine r_iload_n (pc := 29) K dX3_leastMove_29 rfl ?_
        refine v_int (pc := 30) (st := []) (As := [.int 0, .int x3]) (b := a0) (ci := 3) (q0 := (RX3, TX3, 4)) K E (fun _ e1 => M_X3_staysWhenMoved K.2.2.2.2.2.2.1 _ _ _ _ _ e1) h dX3_leastMove_30 ce_X3_staysWhenMoved cv_X3_staysWhenMoved lk_RX3_50 rfl rfl rfl rfl (by decide) rfl rfl (Nat.le_of_ble_eq_true rfl) rfl rfl (by decide) (by decide) (fun x22 h22 h => ?_)
        refine r_if_eq (pc := 33) (tgt := 50) K dX3_leastMove_33 (by decide) h (fun h _ => ?_) (fun h _ => ?_)
        · exact r_weak (lv2 := [some (va_rf (some a0)), some (.int x1), some (.int x2), some (.int x3)]) ⟨rfl, rfl, rfl, rfl, trivial⟩ ((B_X3_leastMove_b50 K hr E ih  _ _ _ _ _ h))
        · refine r_goto (pc := 36) (tgt := 48) K dX3_leastMove_36 (by decide) ?_
          refine r_iload_n (pc := 48) K dX3_leastMove_48 rfl ?_
          exact r_ireturn (pc := 49) K hr dX3_leastMove_49 h (by decide) (by decide)
set_option maxRecDepth 100000 in
set_option maxHeartbeats 4000000 in
theorem B_X3_leastMove_b15 (K : Cx strL D cA h0 p l s m args meth c cX3_leastMove RX3 4) (hr : meth.sig.returnType = (some .int)) (E : ∀ x ∈ c.exceptionTable.toList, False) {res : (Int32 ⊕ String) × hpT} : ∀ (a0 : Nat) (x1 : Int32) (xs0 : Int32) (hp : hpT), F_X3_leastMove_b15  a0 x1 xs0 hp = some res → G D cA h0 p l e rm_X3_leastMove s m args below meth c 4 (vx_MQ below (QI D cA h0 res) (XE D cA h0 res) args s 0 0 (Af h0)) 0 0 hp 15 [some (va_rf (some a0)), some (.int x1), none, none] [.int xs0] := by
  intro a0 x1 xs0 hp h
  unfold F_X3_leastMove_b15 at h
  refine r_istore_n (pc := 15) (lv' := [some (va_rf (some a0)), some (.int x1), some (.int xs0), none]) K dX3_leastMove_15 (by decide) rfl ?_
  refine r_iconst (pc := 16) (v := 1) K dX3_leastMove_16 (by decide) ?_
  refine r_istore_n (pc := 17) (lv' := [some (va_rf (some a0)), some (.int x1), some (.int xs0), some (.int 1)]) K dX3_leastMove_17 (by decide) rfl ?_
  exact r_weak (lv2 := [some (va_rf (some a0)), some (.int x1), some (.int xs0), some (.int 1)]) ⟨rfl, rfl, rfl, rfl, trivial⟩ ((B_X3_leastMove_b18 K hr E 1000 _ _ _ _ _ h))
set_option maxRecDepth 100000 in
set_option maxHeartbeats 4000000 in
theorem M_X3_leastMove {D : va_G} {cA : Nat → ClassId} {h0 : Nat} {l : Launch} (hl : l.stackTraces = false) (a0 : Nat) (x1 : Int32) (hp : hpT) (res : (Int32 ⊕ String) × hpT) (h : F_X3_leastMove a0 x1 hp = some res) : vx_Met l yX3_leastMove (wsm yX3_leastMove cX3_leastMove 4 (some .int)) rm_X3_leastMove (va_Pc [va_rf (some a0), .int x1] (Pre strL D cA h0 hp)) (QI D cA h0 res) (XE D cA h0 res) 0 0 (Af h0) := by
  unfold F_X3_leastMove at h
  refine g_entry (by decide +kernel) hl (cat_c rfl (cat_c rfl (cat_n))) (Nat.le_of_ble_eq_true rfl) (lv := [some (va_rf (some a0)), some (.int x1), none, none]) rfl ?_
  intro p e s m args below meth c K hr E hn
  have K : Cx strL D cA h0 p l s m args meth c cX3_leastMove RX3 4 := K
  refine r_iload_n (pc := 0) K dX3_leastMove_0 rfl ?_
  refine r_if_eq (pc := 1) (tgt := 11) K dX3_leastMove_1 (by decide) h (fun h _ => ?_) (fun h _ => ?_)
  · refine r_aload_n (pc := 11) K dX3_leastMove_11 rfl ?_
    refine r_getI (pc := 12) K dX3_leastMove_12 fk_RX3_24 h (fun x23 h => ?_)
    exact r_weak (lv2 := [some (va_rf (some a0)), some (.int x1), none, none]) ⟨rfl, rfl, trivial⟩ ((B_X3_leastMove_b15 K hr E  _ _ _ _ h))
  · refine r_aload_n (pc := 4) K dX3_leastMove_4 rfl ?_
    refine r_getI (pc := 5) K dX3_leastMove_5 fk_RX3_27 h (fun x24 h => ?_)
    refine r_goto (pc := 8) (tgt := 15) K dX3_leastMove_8 (by decide) ?_
    exact r_weak (lv2 := [some (va_rf (some a0)), some (.int x1), none, none]) ⟨rfl, rfl, trivial⟩ ((B_X3_leastMove_b15 K hr E  _ _ _ _ h))
def rm_X7_repeatAnew : Room := { frames := 7, cells := 1, slots := 6, locals := 141 }
set_option maxRecDepth 100000 in
set_option maxHeartbeats 4000000 in
theorem M_X7_repeatAnew {D : va_G} {cA : Nat → ClassId} {h0 : Nat} {l : Launch} (hl : l.stackTraces = false) (a0 : Nat) (x1 : Int32) (x2 : Int32) (hp : hpT) (res : (Int32 ⊕ String) × hpT) (h : F_X7_repeatAnew a0 x1 x2 hp = some res) : vx_Met l yX7_repeatAnew (wsm yX7_repeatAnew cX7_repeatAnew 3 (some .int)) rm_X7_repeatAnew (va_Pc [va_rf (some a0), .int x1, .int x2] (Pre strL D cA h0 hp)) (QI D cA h0 res) (XE D cA h0 res) 1 6 (Af h0) := by
  unfold F_X7_repeatAnew at h
  refine g_entry (by decide +kernel) hl (cat_c rfl (cat_c rfl (cat_c rfl (cat_n)))) (Nat.le_of_ble_eq_true rfl) (lv := [some (va_rf (some a0)), some (.int x1), some (.int x2)]) rfl ?_
  intro p e s m args below meth c K hr E hn
  have K : Cx strL D cA h0 p l s m args meth c cX7_repeatAnew RX7 3 := K
  refine r_aload_n (pc := 0) K dX7_repeatAnew_0 rfl ?_
  refine r_iload_n (pc := 1) K dX7_repeatAnew_1 rfl ?_
  refine v_ref (pc := 2) (st := []) (As := [.int x1]) (b := a0) (ci := 7) (q0 := (RX7, TX7, 8)) K E (fun _ e1 => M_X7_patternAt K.2.2.2.2.2.2.1 _ _ _ _ e1) h dX7_repeatAnew_2 ce_X7_patternAt cv_X7_patternAt lk_RX7_56 rfl rfl rfl rfl (by decide) rfl rfl (Nat.le_of_ble_eq_true rfl) rfl rfl (by decide) (by decide) (fun a21 h21 h => ?_)
  refine r_iload_n (pc := 5) K dX7_repeatAnew_5 rfl ?_
  refine v_int (pc := 6) (st := []) (As := [.int x2]) (b := a21) (ci := 3) (q0 := (RX3, TX3, 4)) K E (fun _ e1 => M_X3_leastMove K.2.2.2.2.2.2.1 _ _ _ _ e1) h dX7_repeatAnew_6 ce_X3_leastMove cv_X3_leastMove lk_RX7_89 rfl rfl rfl rfl (by decide) rfl rfl (Nat.le_of_ble_eq_true rfl) rfl rfl (by decide) (by decide) (fun x22 h22 h => ?_)
  exact r_ireturn (pc := 9) K hr dX7_repeatAnew_9 h (by decide) (by decide)
def rm_X3_drawn : Room := { frames := 4, cells := 2, slots := 103, locals := 94 }
set_option maxRecDepth 100000 in
set_option maxHeartbeats 4000000 in
theorem B_X3_drawn_b28 (K : Cx strL D cA h0 p l s m args meth c cX3_drawn RX3 4) (hr : meth.sig.returnType = (some (.object "RollerLeaf$Cells"))) (E : ∀ x ∈ c.exceptionTable.toList, False) {res : (Nat ⊕ String) × hpT} {K18 : Nat → Nat → Int32 → hpT → Rs Nat} (hK18 : ∀ (a0 : Nat) (a1 : Nat) (x2 : Int32) (hp : hpT), K18 a0 a1 x2 hp = some res → G D cA h0 p l e rm_X3_drawn s m args below meth c 4 (vx_MQ below (QR D cA h0 res) (XE D cA h0 res) args s 2 103 (Af h0)) 2 103 hp 18 [some (va_rf (some a0)), some (va_rf (some a1)), some (.int x2), none] []) : ∀ (n : Nat) (a0 : Nat) (a1 : Nat) (x2 : Int32) (x3 : Int32) (hp : hpT), F_X3_drawn_b28 K18 n a0 a1 x2 x3 hp = some res → G D cA h0 p l e rm_X3_drawn s m args below meth c 4 (vx_MQ below (QR D cA h0 res) (XE D cA h0 res) args s 2 103 (Af h0)) 2 103 hp 28 [some (va_rf (some a0)), some (va_rf (some a1)), some (.int x2), some (.int x3)] [] := by
  intro n
  induction n with
  | zero => intro a0 a1 x2 x3 hp h; cases h
  | succ n ih =>
    intro a0 a1 x2 x3 hp h
    rw [F_X3_drawn_b28] at h
    refine r_iload_n (pc := 28) K dX3_drawn_28 rfl ?_
    refine r_aload_n (pc := 29) K dX3_drawn_29 rfl ?_
    refine r_getI (pc := 30) K dX3_drawn_30 fk_RX3_24 h (fun x21 h => ?_)
    refine r_icmp_ge (pc := 33) (tgt := 54) K dX3_drawn_33 (by decide) h (fun h _ => ?_) (fun h _ => ?_)
    · refine r_iinc (pc := 54) (v := (x2 + 1)) (lv' := [some (va_rf (some a0)), some (va_rf (some a1)), some (.int (x2 + 1)), some (.int x3)]) K dX3_drawn_54 rfl rfl (by decide) rfl ?_
      refine r_goto (pc := 57) (tgt := 18) K dX3_drawn_57 (by decide) ?_
      exact r_weak (lv2 := [some (va_rf (some a0)), some (va_rf (some a1)), some (.int (x2 + 1)), none]) ⟨rfl, rfl, rfl, trivial⟩ (r_widen (by decide) (by decide) (hK18 _ _ _ _ h))
    · refine r_aload_n (pc := 36) K dX3_drawn_36 rfl ?_
      refine r_iload_n (pc := 37) K dX3_drawn_37 rfl ?_
      refine r_iload_n (pc := 38) K dX3_drawn_38 rfl ?_
      refine r_aload_n (pc := 39) K dX3_drawn_39 rfl ?_
      refine r_iload_n (pc := 40) K dX3_drawn_40 rfl ?_
      refine r_iload_n (pc := 41) K dX3_drawn_41 rfl ?_
      refine v_int (pc := 42) (st := [.int x2, .int x3, va_rf (some a1)]) (As := [.int x3, .int x2]) (b := a0) (ci := 3) (q0 := (RX3, TX3, 4)) K E (fun _ e1 => M_X3_colourAt K.2.2.2.2.2.2.1 _ _ _ _ _ e1) h dX3_drawn_42 ce_X3_colourAt cv_X3_colourAt lk_RX3_54 rfl rfl rfl rfl (by decide) rfl rfl (Nat.le_of_ble_eq_true rfl) rfl rfl (by decide) (by decide) (fun x22 h22 h => ?_)
      refine v_void (pc := 45) (st := []) (As := [.int x3, .int x2, .int x22]) (b := a1) (ci := 0) (q0 := (RX0, TX0, 3)) K E (fun _ e1 => M_X0_put K.2.2.2.2.2.2.1 _ _ _ _ _ _ e1) h dX3_drawn_45 ce_X0_put cv_X0_put lk_RX3_55 rfl rfl rfl rfl (by decide) rfl rfl (Nat.le_of_ble_eq_true rfl) rfl rfl (by decide) (by decide) (fun _ h23 h => ?_)
      refine r_iinc (pc := 48) (v := (x3 + 1)) (lv' := [some (va_rf (some a0)), some (va_rf (some a1)), some (.int x2), some (.int (x3 + 1))]) K dX3_drawn_48 rfl rfl (by decide) rfl ?_
      refine r_goto (pc := 51) (tgt := 28) K dX3_drawn_51 (by decide) ?_
      exact r_weak (lv2 := [some (va_rf (some a0)), some (va_rf (some a1)), some (.int x2), some (.int (x3 + 1))]) ⟨rfl, rfl, rfl, rfl, trivial⟩ (r_widen (by decide) (by decide) (ih _ _ _ _ _ h))
set_option maxRecDepth 100000 in
set_option maxHeartbeats 4000000 in
theorem B_X3_drawn_b18 (K : Cx strL D cA h0 p l s m args meth c cX3_drawn RX3 4) (hr : meth.sig.returnType = (some (.object "RollerLeaf$Cells"))) (E : ∀ x ∈ c.exceptionTable.toList, False) {res : (Nat ⊕ String) × hpT} : ∀ (n : Nat) (a0 : Nat) (a1 : Nat) (x2 : Int32) (hp : hpT), F_X3_drawn_b18  n a0 a1 x2 hp = some res → G D cA h0 p l e rm_X3_drawn s m args below meth c 4 (vx_MQ below (QR D cA h0 res) (XE D cA h0 res) args s 2 103 (Af h0)) 2 103 hp 18 [some (va_rf (some a0)), some (va_rf (some a1)), some (.int x2), none] [] := by
  intro n
  induction n with
  | zero => intro a0 a1 x2 hp h; cases h
  | succ n ih =>
    intro a0 a1 x2 hp h
    rw [F_X3_drawn_b18] at h
    refine r_iload_n (pc := 18) K dX3_drawn_18 rfl ?_
    refine r_aload_n (pc := 19) K dX3_drawn_19 rfl ?_
    refine r_getI (pc := 20) K dX3_drawn_20 fk_RX3_27 h (fun x24 h => ?_)
    refine r_icmp_ge (pc := 23) (tgt := 60) K dX3_drawn_23 (by decide) h (fun h _ => ?_) (fun h _ => ?_)
    · refine r_aload_n (pc := 60) K dX3_drawn_60 rfl ?_
      exact r_areturn (pc := 61) K hr dX3_drawn_61 h (by decide) (by decide)
    · refine r_iconst (pc := 26) (v := 0) K dX3_drawn_26 (by decide) ?_
      refine r_istore_n (pc := 27) (lv' := [some (va_rf (some a0)), some (va_rf (some a1)), some (.int x2), some (.int 0)]) K dX3_drawn_27 (by decide) rfl ?_
      exact r_weak (lv2 := [some (va_rf (some a0)), some (va_rf (some a1)), some (.int x2), some (.int 0)]) ⟨rfl, rfl, rfl, rfl, trivial⟩ (r_widen (by decide) (by decide) (B_X3_drawn_b28 K hr E ih 1000 _ _ _ _ _ h))
set_option maxRecDepth 100000 in
set_option maxHeartbeats 4000000 in
theorem M_X3_drawn {D : va_G} {cA : Nat → ClassId} {h0 : Nat} {l : Launch} (hl : l.stackTraces = false) (a0 : Nat) (hp : hpT) (res : (Nat ⊕ String) × hpT) (h : F_X3_drawn a0 hp = some res) : vx_Met l yX3_drawn (wsm yX3_drawn cX3_drawn 4 (some (.object "RollerLeaf$Cells"))) rm_X3_drawn (va_Pc [va_rf (some a0)] (Pre strL D cA h0 hp)) (QR D cA h0 res) (XE D cA h0 res) 2 103 (Af h0) := by
  unfold F_X3_drawn at h
  refine g_entry (by decide +kernel) hl (cat_c rfl (cat_n)) (Nat.le_of_ble_eq_true rfl) (lv := [some (va_rf (some a0)), none, none, none]) rfl ?_
  intro p e s m args below meth c K hr E hn
  have K : Cx strL D cA h0 p l s m args meth c cX3_drawn RX3 4 := K
  refine r_new (pc := 0) K dX3_drawn_0 cl_RX3_9 nw_0 (by decide) (by decide) h (fun a25 h25 h => ?_)
  refine r_dup (pc := 3) K dX3_drawn_3 rfl ?_
  refine r_aload_n (pc := 4) K dX3_drawn_4 rfl ?_
  refine r_getI (pc := 5) K dX3_drawn_5 fk_RX3_24 h (fun x26 h => ?_)
  refine r_aload_n (pc := 8) K dX3_drawn_8 rfl ?_
  refine r_getI (pc := 9) K dX3_drawn_9 fk_RX3_27 h (fun x27 h => ?_)
  refine i_void (pc := 12) (st := [va_rf (some a25)]) (As := [.int x26, .int x27]) (b := a25) K E (fun _ e1 => M_X0_init K.2.2.2.2.2.2.1 _ _ _ _ _ e1) h dX3_drawn_12 ce_X0_init ci_X0_init lk_RX3_11 rfl rfl (by decide) rfl rfl (Nat.le_of_ble_eq_true rfl) rfl rfl (by decide) (by decide) (fun _ h28 h => ?_)
  refine r_astore_n (pc := 15) (lv' := [some (va_rf (some a0)), some (va_rf (some a25)), none, none]) K dX3_drawn_15 (by decide) rfl ?_
  refine r_iconst (pc := 16) (v := 0) K dX3_drawn_16 (by decide) ?_
  refine r_istore_n (pc := 17) (lv' := [some (va_rf (some a0)), some (va_rf (some a25)), some (.int 0), none]) K dX3_drawn_17 (by decide) rfl ?_
  exact r_weak (lv2 := [some (va_rf (some a0)), some (va_rf (some a25)), some (.int 0), none]) ⟨rfl, rfl, rfl, trivial⟩ (r_widen (by decide) (by decide) (B_X3_drawn_b18 K hr E 1000 _ _ _ _ h))
def rm_X4_init : Room := { frames := 1, cells := 0, slots := 0, locals := 20 }
set_option maxRecDepth 100000 in
set_option maxHeartbeats 4000000 in
theorem M_X4_init {D : va_G} {cA : Nat → ClassId} {h0 : Nat} {l : Launch} (hl : l.stackTraces = false) (a0 : Nat) (x1 : Int32) (a2 : Nat) (hp : hpT) (res : (Unit ⊕ String) × hpT) (h : F_X4_init a0 x1 a2 hp = some res) : vx_Met l yX4_init (wsm yX4_init cX4_init 3 none) rm_X4_init (va_Pc [va_rf (some a0), .int x1, va_rf (some a2)] (Pre strL D cA h0 hp)) (QV D cA h0 res) (XE D cA h0 res) 0 0 (Af h0) := by
  unfold F_X4_init at h
  refine g_entry (by decide +kernel) hl (cat_c rfl (cat_c rfl (cat_c rfl (cat_n)))) (Nat.le_of_ble_eq_true rfl) (lv := [some (va_rf (some a0)), some (.int x1), some (va_rf (some a2))]) rfl ?_
  intro p e s m args below meth c K hr E hn
  have K : Cx strL D cA h0 p l s m args meth c cX4_init RX4 3 := K
  refine r_aload_n (pc := 0) K dX4_init_0 rfl ?_
  refine r_objInit (pc := 1) K dX4_init_1 oi_RX4_1 oi_i oi_c (Nat.le_of_ble_eq_true rfl) (Nat.le_of_ble_eq_true rfl) ?_
  refine r_aload_n (pc := 4) K dX4_init_4 rfl ?_
  refine r_iload_n (pc := 5) K dX4_init_5 rfl ?_
  refine r_putF (pc := 6) K hn dX4_init_6 fk_RX4_7 ff_4_0 rfl rfl h (fun h21 h => ?_)
  refine r_aload_n (pc := 9) K dX4_init_9 rfl ?_
  refine r_aload_n (pc := 10) K dX4_init_10 rfl ?_
  refine r_putF (pc := 11) K hn dX4_init_11 fk_RX4_13 ff_4_1 rfl rfl h (fun h22 h => ?_)
  exact r_vreturn (pc := 14) K hr dX4_init_14 h (by decide) (by decide)
def rm_X7_roller : Room := { frames := 7, cells := 5, slots := 117, locals := 117 }
set_option maxRecDepth 100000 in
set_option maxHeartbeats 4000000 in
theorem B_X7_roller_b55 (K : Cx strL D cA h0 p l s m args meth c cX7_roller RX7 5) (hr : meth.sig.returnType = (some .int)) (E : ∀ x ∈ c.exceptionTable.toList, False) {res : (Int32 ⊕ String) × hpT} : ∀ (hp : hpT), F_X7_roller_b55   hp = some res → G D cA h0 p l e rm_X7_roller s m args below meth c 5 (vx_MQ below (QI D cA h0 res) (XE D cA h0 res) args s 5 117 (Af h0)) 2 12 hp 55 [none, none, none, none, none] [] := by
  intro  hp h
  unfold F_X7_roller_b55 at h
  exact r_throw (pc := 55) K E dX7_roller_55 dX7_roller_58 dX7_roller_59 dX7_roller_61 dX7_roller_64 th_RX7_49_53 st_RX7_101 h (Nat.le_of_ble_eq_true rfl) (Nat.le_of_ble_eq_true rfl) (by decide) (by decide) (by decide) (by decide)
set_option maxRecDepth 100000 in
set_option maxHeartbeats 4000000 in
theorem M_X7_roller {D : va_G} {cA : Nat → ClassId} {h0 : Nat} {l : Launch} (hl : l.stackTraces = false) (a0 : Nat) (x1 : Int32) (x2 : Int32) (hp : hpT) (res : (Int32 ⊕ String) × hpT) (h : F_X7_roller a0 x1 x2 hp = some res) : vx_Met l yX7_roller (wsm yX7_roller cX7_roller 5 (some .int)) rm_X7_roller (va_Pc [va_rf (some a0), .int x1, .int x2] (Pre strL D cA h0 hp)) (QI D cA h0 res) (XE D cA h0 res) 5 117 (Af h0) := by
  unfold F_X7_roller at h
  refine g_entry (by decide +kernel) hl (cat_c rfl (cat_c rfl (cat_c rfl (cat_n)))) (Nat.le_of_ble_eq_true rfl) (lv := [some (va_rf (some a0)), some (.int x1), some (.int x2), none, none]) rfl ?_
  intro p e s m args below meth c K hr E hn
  have K : Cx strL D cA h0 p l s m args meth c cX7_roller RX7 5 := K
  refine r_aload_n (pc := 0) K dX7_roller_0 rfl ?_
  refine r_iload_n (pc := 1) K dX7_roller_1 rfl ?_
  refine v_ref (pc := 2) (st := []) (As := [.int x1]) (b := a0) (ci := 7) (q0 := (RX7, TX7, 8)) K E (fun _ e1 => M_X7_patternAt K.2.2.2.2.2.2.1 _ _ _ _ e1) h dX7_roller_2 ce_X7_patternAt cv_X7_patternAt lk_RX7_56 rfl rfl rfl rfl (by decide) rfl rfl (Nat.le_of_ble_eq_true rfl) rfl rfl (by decide) (by decide) (fun a21 h21 h => ?_)
  refine r_astore_n (pc := 5) (lv' := [some (va_rf (some a0)), some (.int x1), some (.int x2), some (va_rf (some a21)), none]) K dX7_roller_5 (by decide) rfl ?_
  refine r_iload_n (pc := 6) K dX7_roller_6 rfl ?_
  refine r_iconst (pc := 7) (v := 1) K dX7_roller_7 (by decide) ?_
  refine r_bipush (pc := 8) (v := 60) K dX7_roller_8 (by decide) ?_
  refine s_void (pc := 10) (st := []) (As := [.int x2, .int 1, .int 60]) K E (fun _ e1 => M_X7_requireWithin K.2.2.2.2.2.2.1 _ _ _ _ _ e1) h dX7_roller_10 ce_X7_requireWithin cs_X7_requireWithin lk_RX7_34 rfl rfl (by decide) rfl rfl (Nat.le_of_ble_eq_true rfl) rfl rfl (by decide) (by decide) (fun _ h22 h => ?_)
  refine r_iload_n (pc := 13) K dX7_roller_13 rfl ?_
  refine r_aload_n (pc := 14) K dX7_roller_14 rfl ?_
  refine r_getI (pc := 15) K dX7_roller_15 fk_RX7_83 h (fun x23 h => ?_)
  refine s_int (pc := 18) (st := []) (As := [.int x2, .int x23]) K E (fun _ e1 => M_X7_wrapped K.2.2.2.2.2.2.1 _ _ _ _ e1) h dX7_roller_18 ce_X7_wrapped cs_X7_wrapped lk_RX7_93 rfl rfl (by decide) rfl rfl (Nat.le_of_ble_eq_true rfl) rfl rfl (by decide) (by decide) (fun x24 h24 h => ?_)
  refine r_if_eq (pc := 21) (tgt := 34) K dX7_roller_21 (by decide) h (fun h _ => ?_) (fun h _ => ?_)
  · refine r_aload_n (pc := 34) K dX7_roller_34 rfl ?_
    refine r_getI (pc := 35) K dX7_roller_35 fk_RX7_98 h (fun x25 h => ?_)
    refine r_istore (pc := 38) (lv' := [some (va_rf (some a0)), some (.int x1), some (.int x2), some (va_rf (some a21)), some (.int x25)]) K dX7_roller_38 (by decide) rfl ?_
    refine r_iload (pc := 40) K dX7_roller_40 rfl ?_
    refine r_if_lt (pc := 42) (tgt := 55) K dX7_roller_42 (by decide) h (fun h _ => ?_) (fun h _ => ?_)
    · exact r_weak (lv2 := [none, none, none, none, none]) trivial (r_widen (by decide) (by decide) (B_X7_roller_b55 K hr E   _ h))
    · refine r_iload (pc := 45) K dX7_roller_45 rfl ?_
      refine r_aload_n (pc := 47) K dX7_roller_47 rfl ?_
      refine r_getR (pc := 48) K dX7_roller_48 fk_RX7_17 h (fun r26 h => ?_)
      refine nn_k h (fun a27 hz hq27 => ?_)
      subst hz
      have h := hq27
      refine r_alen (pc := 51) K dX7_roller_51 h (fun x28 h => ?_)
      refine r_icmp_lt (pc := 52) (tgt := 65) K dX7_roller_52 (by decide) h (fun h _ => ?_) (fun h _ => ?_)
      · refine r_aload_n (pc := 65) K dX7_roller_65 rfl ?_
        refine r_getR (pc := 66) K dX7_roller_66 fk_RX7_17 h (fun r29 h => ?_)
        refine r_iload (pc := 69) K dX7_roller_69 rfl ?_
        refine r_new (pc := 71) K dX7_roller_71 cl_RX7_15 nw_4 (by decide) (by decide) h (fun a30 h30 h => ?_)
        refine r_dup (pc := 74) K dX7_roller_74 rfl ?_
        refine r_iload_n (pc := 75) K dX7_roller_75 rfl ?_
        refine r_aload_n (pc := 76) K dX7_roller_76 rfl ?_
        refine v_ref (pc := 77) (st := [.int x2, va_rf (some a30), va_rf (some a30), .int x25, va_rf r29]) (As := []) (b := a21) (ci := 3) (q0 := (RX3, TX3, 4)) K E (fun _ e1 => M_X3_drawn K.2.2.2.2.2.2.1 _ _ _ e1) h dX7_roller_77 ce_X3_drawn cv_X3_drawn lk_RX7_103 rfl rfl rfl rfl (by decide) rfl rfl (mcat_le (cat_c rfl (cat_c rfl (cat_c rfl (cat_c rfl (cat_c (va_rf_cat _) (cat_n)))))) (Nat.le_of_ble_eq_true rfl)) rfl rfl (by decide) (by decide) (fun a31 h31 h => ?_)
        refine i_void (pc := 80) (st := [va_rf (some a30), .int x25, va_rf r29]) (As := [.int x2, va_rf (some a31)]) (b := a30) K E (fun _ e1 => M_X4_init K.2.2.2.2.2.2.1 _ _ _ _ _ e1) h dX7_roller_80 ce_X4_init ci_X4_init lk_RX7_107 rfl rfl (by decide) rfl rfl (mcat_le (cat_c rfl (cat_c rfl (cat_c (va_rf_cat _) (cat_n)))) (Nat.le_of_ble_eq_true rfl)) rfl rfl (by decide) (by decide) (fun _ h32 h => ?_)
        refine nn_k h (fun a33 hz hq33 => ?_)
        subst hz
        have h := hq33
        refine r_aast (pc := 83) K dX7_roller_83 (k0 := 3) (ci := 4) (q0 := (RX4, TX4, 2)) rfl rfl h (fun h34 h => ?_)
        refine r_aload_n (pc := 84) K dX7_roller_84 rfl ?_
        refine r_iload (pc := 85) K dX7_roller_85 rfl ?_
        refine r_iconst (pc := 87) (v := 1) K dX7_roller_87 (by decide) ?_
        refine r_iadd (pc := 88) K dX7_roller_88 ?_
        refine r_put (pc := 89) K dX7_roller_89 fk_RX7_98 fn_7_3 rfl rfl h (fun h35 h => ?_)
        refine r_iload (pc := 92) K dX7_roller_92 rfl ?_
        exact r_ireturn (pc := 94) K hr dX7_roller_94 h (by decide) (by decide)
      · exact r_weak (lv2 := [none, none, none, none, none]) trivial (r_widen (by decide) (by decide) (B_X7_roller_b55 K hr E   _ h))
  · exact r_throw (pc := 24) K E dX7_roller_24 dX7_roller_27 dX7_roller_28 dX7_roller_30 dX7_roller_33 th_RX7_49_53 st_RX7_96 h (Nat.le_of_ble_eq_true rfl) (Nat.le_of_ble_eq_true rfl) (by decide) (by decide) (by decide) (by decide)
def rm_X7_rollerAt : Room := { frames := 6, cells := 1, slots := 6, locals := 90 }
set_option maxRecDepth 100000 in
set_option maxHeartbeats 4000000 in
theorem B_X7_rollerAt_b23 (K : Cx strL D cA h0 p l s m args meth c cX7_rollerAt RX7 3) (hr : meth.sig.returnType = (some (.object "RollerLeaf$Roller"))) (E : ∀ x ∈ c.exceptionTable.toList, False) {res : (Nat ⊕ String) × hpT} : ∀ (rs0 : Option Nat) (hp : hpT), F_X7_rollerAt_b23  rs0 hp = some res → G D cA h0 p l e rm_X7_rollerAt s m args below meth c 3 (vx_MQ below (QR D cA h0 res) (XE D cA h0 res) args s 1 6 (Af h0)) 0 0 hp 23 [none, none, none] [va_rf rs0] := by
  intro rs0 hp h
  unfold F_X7_rollerAt_b23 at h
  refine r_astore_n (pc := 23) (lv' := [none, none, some (va_rf rs0)]) K dX7_rollerAt_23 (by decide) rfl ?_
  refine r_aload_n (pc := 24) K dX7_rollerAt_24 rfl ?_
  refine r_ifnonnull (pc := 25) (tgt := 38) K dX7_rollerAt_25 (by decide) h (fun hz hq21 => ?_) (fun a21 hz hq21 => ?_)
  · subst hz
    have h := hq21
    exact r_throw (pc := 28) K E dX7_rollerAt_28 dX7_rollerAt_31 dX7_rollerAt_32 dX7_rollerAt_34 dX7_rollerAt_37 th_RX7_70_74 st_RX7_251 h (Nat.le_of_ble_eq_true rfl) (Nat.le_of_ble_eq_true rfl) (by decide) (by decide) (by decide) (by decide)
  · subst hz
    have h := hq21
    refine r_aload_n (pc := 38) K dX7_rollerAt_38 rfl ?_
    exact r_areturn (pc := 39) K hr dX7_rollerAt_39 h (by decide) (by decide)
set_option maxRecDepth 100000 in
set_option maxHeartbeats 4000000 in
theorem B_X7_rollerAt_b13 (K : Cx strL D cA h0 p l s m args meth c cX7_rollerAt RX7 3) (hr : meth.sig.returnType = (some (.object "RollerLeaf$Roller"))) (E : ∀ x ∈ c.exceptionTable.toList, False) {res : (Nat ⊕ String) × hpT} : ∀ (hp : hpT), F_X7_rollerAt_b13   hp = some res → G D cA h0 p l e rm_X7_rollerAt s m args below meth c 3 (vx_MQ below (QR D cA h0 res) (XE D cA h0 res) args s 1 6 (Af h0)) 0 0 hp 13 [none, none, none] [] := by
  intro  hp h
  unfold F_X7_rollerAt_b13 at h
  refine r_null (pc := 13) K dX7_rollerAt_13 ?_
  refine r_goto (pc := 14) (tgt := 23) K dX7_rollerAt_14 (by decide) ?_
  exact r_weak (lv2 := [none, none, none]) trivial (r_widen (by decide) (by decide) (B_X7_rollerAt_b23 K hr E  _ _ h))
set_option maxRecDepth 100000 in
set_option maxHeartbeats 4000000 in
theorem M_X7_rollerAt {D : va_G} {cA : Nat → ClassId} {h0 : Nat} {l : Launch} (hl : l.stackTraces = false) (a0 : Nat) (x1 : Int32) (hp : hpT) (res : (Nat ⊕ String) × hpT) (h : F_X7_rollerAt a0 x1 hp = some res) : vx_Met l yX7_rollerAt (wsm yX7_rollerAt cX7_rollerAt 3 (some (.object "RollerLeaf$Roller"))) rm_X7_rollerAt (va_Pc [va_rf (some a0), .int x1] (Pre strL D cA h0 hp)) (QR D cA h0 res) (XE D cA h0 res) 1 6 (Af h0) := by
  unfold F_X7_rollerAt at h
  refine g_entry (by decide +kernel) hl (cat_c rfl (cat_c rfl (cat_n))) (Nat.le_of_ble_eq_true rfl) (lv := [some (va_rf (some a0)), some (.int x1), none]) rfl ?_
  intro p e s m args below meth c K hr E hn
  have K : Cx strL D cA h0 p l s m args meth c cX7_rollerAt RX7 3 := K
  refine r_iload_n (pc := 0) K dX7_rollerAt_0 rfl ?_
  refine r_if_lt (pc := 1) (tgt := 13) K dX7_rollerAt_1 (by decide) h (fun h _ => ?_) (fun h _ => ?_)
  · exact r_weak (lv2 := [none, none, none]) trivial (r_widen (by decide) (by decide) (B_X7_rollerAt_b13 K hr E   _ h))
  · refine r_iload_n (pc := 4) K dX7_rollerAt_4 rfl ?_
    refine r_aload_n (pc := 5) K dX7_rollerAt_5 rfl ?_
    refine r_getR (pc := 6) K dX7_rollerAt_6 fk_RX7_17 h (fun r22 h => ?_)
    refine nn_k h (fun a23 hz hq23 => ?_)
    subst hz
    have h := hq23
    refine r_alen (pc := 9) K dX7_rollerAt_9 h (fun x24 h => ?_)
    refine r_icmp_lt (pc := 10) (tgt := 17) K dX7_rollerAt_10 (by decide) h (fun h _ => ?_) (fun h _ => ?_)
    · refine r_aload_n (pc := 17) K dX7_rollerAt_17 rfl ?_
      refine r_getR (pc := 18) K dX7_rollerAt_18 fk_RX7_17 h (fun r25 h => ?_)
      refine r_iload_n (pc := 21) K dX7_rollerAt_21 rfl ?_
      refine nn_k h (fun a26 hz hq26 => ?_)
      subst hz
      have h := hq26
      refine r_aald (pc := 22) K dX7_rollerAt_22 (k0 := 3) rfl h (fun r27 h => ?_)
      exact r_weak (lv2 := [none, none, none]) trivial (r_widen (by decide) (by decide) (B_X7_rollerAt_b23 K hr E  _ _ h))
    · exact r_weak (lv2 := [none, none, none]) trivial (r_widen (by decide) (by decide) (B_X7_rollerAt_b13 K hr E   _ h))
def rm_X1_init : Room := { frames := 1, cells := 0, slots := 0, locals := 20 }
set_option maxRecDepth 100000 in
set_option maxHeartbeats 4000000 in
theorem M_X1_init {D : va_G} {cA : Nat → ClassId} {h0 : Nat} {l : Launch} (hl : l.stackTraces = false) (a0 : Nat) (a1 : Nat) (x2 : Int32) (x3 : Int32) (x4 : Int32) (x5 : Int32) (hp : hpT) (res : (Unit ⊕ String) × hpT) (h : F_X1_init a0 a1 x2 x3 x4 x5 hp = some res) : vx_Met l yX1_init (wsm yX1_init cX1_init 6 none) rm_X1_init (va_Pc [va_rf (some a0), va_rf (some a1), .int x2, .int x3, .int x4, .int x5] (Pre strL D cA h0 hp)) (QV D cA h0 res) (XE D cA h0 res) 0 0 (Af h0) := by
  unfold F_X1_init at h
  refine g_entry (by decide +kernel) hl (cat_c rfl (cat_c rfl (cat_c rfl (cat_c rfl (cat_c rfl (cat_c rfl (cat_n))))))) (Nat.le_of_ble_eq_true rfl) (lv := [some (va_rf (some a0)), some (va_rf (some a1)), some (.int x2), some (.int x3), some (.int x4), some (.int x5)]) rfl ?_
  intro p e s m args below meth c K hr E hn
  have K : Cx strL D cA h0 p l s m args meth c cX1_init RX1 6 := K
  refine r_aload_n (pc := 0) K dX1_init_0 rfl ?_
  refine r_objInit (pc := 1) K dX1_init_1 oi_RX1_1 oi_i oi_c (Nat.le_of_ble_eq_true rfl) (Nat.le_of_ble_eq_true rfl) ?_
  refine r_aload_n (pc := 4) K dX1_init_4 rfl ?_
  refine r_aload_n (pc := 5) K dX1_init_5 rfl ?_
  refine r_putF (pc := 6) K hn dX1_init_6 fk_RX1_7 ff_1_0 rfl rfl h (fun h21 h => ?_)
  refine r_aload_n (pc := 9) K dX1_init_9 rfl ?_
  refine r_iload_n (pc := 10) K dX1_init_10 rfl ?_
  refine r_putF (pc := 11) K hn dX1_init_11 fk_RX1_13 ff_1_1 rfl rfl h (fun h22 h => ?_)
  refine r_aload_n (pc := 14) K dX1_init_14 rfl ?_
  refine r_iload_n (pc := 15) K dX1_init_15 rfl ?_
  refine r_putF (pc := 16) K hn dX1_init_16 fk_RX1_17 ff_1_2 rfl rfl h (fun h23 h => ?_)
  refine r_aload_n (pc := 19) K dX1_init_19 rfl ?_
  refine r_iload (pc := 20) K dX1_init_20 rfl ?_
  refine r_put (pc := 22) K dX1_init_22 fk_RX1_20 fn_1_4 rfl rfl h (fun h24 h => ?_)
  refine r_aload_n (pc := 25) K dX1_init_25 rfl ?_
  refine r_iload (pc := 26) K dX1_init_26 rfl ?_
  refine r_putF (pc := 28) K hn dX1_init_28 fk_RX1_23 ff_1_3 rfl rfl h (fun h25 h => ?_)
  exact r_vreturn (pc := 31) K hr dX1_init_31 h (by decide) (by decide)
def rm_X7_lot : Room := { frames := 7, cells := 5, slots := 30, locals := 112 }
set_option maxRecDepth 100000 in
set_option maxHeartbeats 4000000 in
theorem B_X7_lot_b51 (K : Cx strL D cA h0 p l s m args meth c cX7_lot RX7 7) (hr : meth.sig.returnType = (some .int)) (E : ∀ x ∈ c.exceptionTable.toList, False) {res : (Int32 ⊕ String) × hpT} : ∀ (hp : hpT), F_X7_lot_b51   hp = some res → G D cA h0 p l e rm_X7_lot s m args below meth c 7 (vx_MQ below (QI D cA h0 res) (XE D cA h0 res) args s 5 30 (Af h0)) 4 24 hp 51 [none, none, none, none, none, none, none] [] := by
  intro  hp h
  unfold F_X7_lot_b51 at h
  exact r_throw (pc := 51) K E dX7_lot_51 dX7_lot_54 dX7_lot_55 dX7_lot_57 dX7_lot_60 th_RX7_49_53 st_RX7_117 h (Nat.le_of_ble_eq_true rfl) (Nat.le_of_ble_eq_true rfl) (by decide) (by decide) (by decide) (by decide)
set_option maxRecDepth 100000 in
set_option maxHeartbeats 4000000 in
theorem M_X7_lot {D : va_G} {cA : Nat → ClassId} {h0 : Nat} {l : Launch} (hl : l.stackTraces = false) (a0 : Nat) (x1 : Int32) (x2 : Int32) (x3 : Int32) (x4 : Int32) (hp : hpT) (res : (Int32 ⊕ String) × hpT) (h : F_X7_lot a0 x1 x2 x3 x4 hp = some res) : vx_Met l yX7_lot (wsm yX7_lot cX7_lot 7 (some .int)) rm_X7_lot (va_Pc [va_rf (some a0), .int x1, .int x2, .int x3, .int x4] (Pre strL D cA h0 hp)) (QI D cA h0 res) (XE D cA h0 res) 5 30 (Af h0) := by
  unfold F_X7_lot at h
  refine g_entry (by decide +kernel) hl (cat_c rfl (cat_c rfl (cat_c rfl (cat_c rfl (cat_c rfl (cat_n)))))) (Nat.le_of_ble_eq_true rfl) (lv := [some (va_rf (some a0)), some (.int x1), some (.int x2), some (.int x3), some (.int x4), none, none]) rfl ?_
  intro p e s m args below meth c K hr E hn
  have K : Cx strL D cA h0 p l s m args meth c cX7_lot RX7 7 := K
  refine r_aload_n (pc := 0) K dX7_lot_0 rfl ?_
  refine r_iload_n (pc := 1) K dX7_lot_1 rfl ?_
  refine v_ref (pc := 2) (st := []) (As := [.int x1]) (b := a0) (ci := 7) (q0 := (RX7, TX7, 8)) K E (fun _ e1 => M_X7_rollerAt K.2.2.2.2.2.2.1 _ _ _ _ e1) h dX7_lot_2 ce_X7_rollerAt cv_X7_rollerAt lk_RX7_110 rfl rfl rfl rfl (by decide) rfl rfl (Nat.le_of_ble_eq_true rfl) rfl rfl (by decide) (by decide) (fun a21 h21 h => ?_)
  refine r_astore (pc := 5) (lv' := [some (va_rf (some a0)), some (.int x1), some (.int x2), some (.int x3), some (.int x4), some (va_rf (some a21)), none]) K dX7_lot_5 (by decide) rfl ?_
  refine r_iload_n (pc := 7) K dX7_lot_7 rfl ?_
  refine r_iconst (pc := 8) (v := 0) K dX7_lot_8 (by decide) ?_
  refine r_bipush (pc := 9) (v := 9) K dX7_lot_9 (by decide) ?_
  refine s_void (pc := 11) (st := []) (As := [.int x2, .int 0, .int 9]) K E (fun _ e1 => M_X7_requireWithin K.2.2.2.2.2.2.1 _ _ _ _ _ e1) h dX7_lot_11 ce_X7_requireWithin cs_X7_requireWithin lk_RX7_34 rfl rfl (by decide) rfl rfl (Nat.le_of_ble_eq_true rfl) rfl rfl (by decide) (by decide) (fun _ h22 h => ?_)
  refine r_iload_n (pc := 14) K dX7_lot_14 rfl ?_
  refine r_iconst (pc := 15) (v := 1) K dX7_lot_15 (by decide) ?_
  refine r_bipush (pc := 16) (v := 20) K dX7_lot_16 (by decide) ?_
  refine s_void (pc := 18) (st := []) (As := [.int x3, .int 1, .int 20]) K E (fun _ e1 => M_X7_requireWithin K.2.2.2.2.2.2.1 _ _ _ _ _ e1) h dX7_lot_18 ce_X7_requireWithin cs_X7_requireWithin lk_RX7_34 rfl rfl (by decide) rfl rfl (Nat.le_of_ble_eq_true rfl) rfl rfl (by decide) (by decide) (fun _ h23 h => ?_)
  refine r_iload (pc := 21) K dX7_lot_21 rfl ?_
  refine r_iconst (pc := 23) (v := 1) K dX7_lot_23 (by decide) ?_
  refine r_sipush (pc := 24) (v := 200) K dX7_lot_24 (by decide) ?_
  refine s_void (pc := 27) (st := []) (As := [.int x4, .int 1, .int 200]) K E (fun _ e1 => M_X7_requireWithin K.2.2.2.2.2.2.1 _ _ _ _ _ e1) h dX7_lot_27 ce_X7_requireWithin cs_X7_requireWithin lk_RX7_34 rfl rfl (by decide) rfl rfl (Nat.le_of_ble_eq_true rfl) rfl rfl (by decide) (by decide) (fun _ h24 h => ?_)
  refine r_aload_n (pc := 30) K dX7_lot_30 rfl ?_
  refine r_getI (pc := 31) K dX7_lot_31 fk_RX7_114 h (fun x25 h => ?_)
  refine r_istore (pc := 34) (lv' := [some (va_rf (some a0)), some (.int x1), some (.int x2), some (.int x3), some (.int x4), some (va_rf (some a21)), some (.int x25)]) K dX7_lot_34 (by decide) rfl ?_
  refine r_iload (pc := 36) K dX7_lot_36 rfl ?_
  refine r_if_lt (pc := 38) (tgt := 51) K dX7_lot_38 (by decide) h (fun h _ => ?_) (fun h _ => ?_)
  · exact r_weak (lv2 := [none, none, none, none, none, none, none]) trivial (r_widen (by decide) (by decide) (B_X7_lot_b51 K hr E   _ h))
  · refine r_iload (pc := 41) K dX7_lot_41 rfl ?_
    refine r_aload_n (pc := 43) K dX7_lot_43 rfl ?_
    refine r_getR (pc := 44) K dX7_lot_44 fk_RX7_23 h (fun r26 h => ?_)
    refine nn_k h (fun a27 hz hq27 => ?_)
    subst hz
    have h := hq27
    refine r_alen (pc := 47) K dX7_lot_47 h (fun x28 h => ?_)
    refine r_icmp_lt (pc := 48) (tgt := 61) K dX7_lot_48 (by decide) h (fun h _ => ?_) (fun h _ => ?_)
    · refine r_aload_n (pc := 61) K dX7_lot_61 rfl ?_
      refine r_getR (pc := 62) K dX7_lot_62 fk_RX7_23 h (fun r29 h => ?_)
      refine r_iload (pc := 65) K dX7_lot_65 rfl ?_
      refine r_new (pc := 67) K dX7_lot_67 cl_RX7_21 nw_1 (by decide) (by decide) h (fun a30 h30 h => ?_)
      refine r_dup (pc := 70) K dX7_lot_70 rfl ?_
      refine r_aload (pc := 71) K dX7_lot_71 rfl ?_
      refine r_iload_n (pc := 73) K dX7_lot_73 rfl ?_
      refine r_iload_n (pc := 74) K dX7_lot_74 rfl ?_
      refine r_iload_n (pc := 75) K dX7_lot_75 rfl ?_
      refine r_iload (pc := 76) K dX7_lot_76 rfl ?_
      refine i_void (pc := 78) (st := [va_rf (some a30), .int x25, va_rf r29]) (As := [va_rf (some a21), .int x1, .int x2, .int x3, .int x4]) (b := a30) K E (fun _ e1 => M_X1_init K.2.2.2.2.2.2.1 _ _ _ _ _ _ _ _ e1) h dX7_lot_78 ce_X1_init ci_X1_init lk_RX7_119 rfl rfl (by decide) rfl rfl (mcat_le (cat_c rfl (cat_c rfl (cat_c (va_rf_cat _) (cat_n)))) (Nat.le_of_ble_eq_true rfl)) rfl rfl (by decide) (by decide) (fun _ h31 h => ?_)
      refine nn_k h (fun a32 hz hq32 => ?_)
      subst hz
      have h := hq32
      refine r_aast (pc := 81) K dX7_lot_81 (k0 := 4) (ci := 1) (q0 := (RX1, TX1, 5)) rfl rfl h (fun h33 h => ?_)
      refine r_aload_n (pc := 82) K dX7_lot_82 rfl ?_
      refine r_iload (pc := 83) K dX7_lot_83 rfl ?_
      refine r_iconst (pc := 85) (v := 1) K dX7_lot_85 (by decide) ?_
      refine r_iadd (pc := 86) K dX7_lot_86 ?_
      refine r_put (pc := 87) K dX7_lot_87 fk_RX7_114 fn_7_5 rfl rfl h (fun h34 h => ?_)
      refine r_iload (pc := 90) K dX7_lot_90 rfl ?_
      exact r_ireturn (pc := 92) K hr dX7_lot_92 h (by decide) (by decide)
    · exact r_weak (lv2 := [none, none, none, none, none, none, none]) trivial (r_widen (by decide) (by decide) (B_X7_lot_b51 K hr E   _ h))
def rm_X7_lotAt : Room := { frames := 6, cells := 1, slots := 6, locals := 90 }
set_option maxRecDepth 100000 in
set_option maxHeartbeats 4000000 in
theorem B_X7_lotAt_b23 (K : Cx strL D cA h0 p l s m args meth c cX7_lotAt RX7 3) (hr : meth.sig.returnType = (some (.object "RollerLeaf$Lot"))) (E : ∀ x ∈ c.exceptionTable.toList, False) {res : (Nat ⊕ String) × hpT} : ∀ (rs0 : Option Nat) (hp : hpT), F_X7_lotAt_b23  rs0 hp = some res → G D cA h0 p l e rm_X7_lotAt s m args below meth c 3 (vx_MQ below (QR D cA h0 res) (XE D cA h0 res) args s 1 6 (Af h0)) 0 0 hp 23 [none, none, none] [va_rf rs0] := by
  intro rs0 hp h
  unfold F_X7_lotAt_b23 at h
  refine r_astore_n (pc := 23) (lv' := [none, none, some (va_rf rs0)]) K dX7_lotAt_23 (by decide) rfl ?_
  refine r_aload_n (pc := 24) K dX7_lotAt_24 rfl ?_
  refine r_ifnonnull (pc := 25) (tgt := 38) K dX7_lotAt_25 (by decide) h (fun hz hq21 => ?_) (fun a21 hz hq21 => ?_)
  · subst hz
    have h := hq21
    exact r_throw (pc := 28) K E dX7_lotAt_28 dX7_lotAt_31 dX7_lotAt_32 dX7_lotAt_34 dX7_lotAt_37 th_RX7_70_74 st_RX7_253 h (Nat.le_of_ble_eq_true rfl) (Nat.le_of_ble_eq_true rfl) (by decide) (by decide) (by decide) (by decide)
  · subst hz
    have h := hq21
    refine r_aload_n (pc := 38) K dX7_lotAt_38 rfl ?_
    exact r_areturn (pc := 39) K hr dX7_lotAt_39 h (by decide) (by decide)
set_option maxRecDepth 100000 in
set_option maxHeartbeats 4000000 in
theorem B_X7_lotAt_b13 (K : Cx strL D cA h0 p l s m args meth c cX7_lotAt RX7 3) (hr : meth.sig.returnType = (some (.object "RollerLeaf$Lot"))) (E : ∀ x ∈ c.exceptionTable.toList, False) {res : (Nat ⊕ String) × hpT} : ∀ (hp : hpT), F_X7_lotAt_b13   hp = some res → G D cA h0 p l e rm_X7_lotAt s m args below meth c 3 (vx_MQ below (QR D cA h0 res) (XE D cA h0 res) args s 1 6 (Af h0)) 0 0 hp 13 [none, none, none] [] := by
  intro  hp h
  unfold F_X7_lotAt_b13 at h
  refine r_null (pc := 13) K dX7_lotAt_13 ?_
  refine r_goto (pc := 14) (tgt := 23) K dX7_lotAt_14 (by decide) ?_
  exact r_weak (lv2 := [none, none, none]) trivial (r_widen (by decide) (by decide) (B_X7_lotAt_b23 K hr E  _ _ h))
set_option maxRecDepth 100000 in
set_option maxHeartbeats 4000000 in
theorem M_X7_lotAt {D : va_G} {cA : Nat → ClassId} {h0 : Nat} {l : Launch} (hl : l.stackTraces = false) (a0 : Nat) (x1 : Int32) (hp : hpT) (res : (Nat ⊕ String) × hpT) (h : F_X7_lotAt a0 x1 hp = some res) : vx_Met l yX7_lotAt (wsm yX7_lotAt cX7_lotAt 3 (some (.object "RollerLeaf$Lot"))) rm_X7_lotAt (va_Pc [va_rf (some a0), .int x1] (Pre strL D cA h0 hp)) (QR D cA h0 res) (XE D cA h0 res) 1 6 (Af h0) := by
  unfold F_X7_lotAt at h
  refine g_entry (by decide +kernel) hl (cat_c rfl (cat_c rfl (cat_n))) (Nat.le_of_ble_eq_true rfl) (lv := [some (va_rf (some a0)), some (.int x1), none]) rfl ?_
  intro p e s m args below meth c K hr E hn
  have K : Cx strL D cA h0 p l s m args meth c cX7_lotAt RX7 3 := K
  refine r_iload_n (pc := 0) K dX7_lotAt_0 rfl ?_
  refine r_if_lt (pc := 1) (tgt := 13) K dX7_lotAt_1 (by decide) h (fun h _ => ?_) (fun h _ => ?_)
  · exact r_weak (lv2 := [none, none, none]) trivial (r_widen (by decide) (by decide) (B_X7_lotAt_b13 K hr E   _ h))
  · refine r_iload_n (pc := 4) K dX7_lotAt_4 rfl ?_
    refine r_aload_n (pc := 5) K dX7_lotAt_5 rfl ?_
    refine r_getR (pc := 6) K dX7_lotAt_6 fk_RX7_23 h (fun r22 h => ?_)
    refine nn_k h (fun a23 hz hq23 => ?_)
    subst hz
    have h := hq23
    refine r_alen (pc := 9) K dX7_lotAt_9 h (fun x24 h => ?_)
    refine r_icmp_lt (pc := 10) (tgt := 17) K dX7_lotAt_10 (by decide) h (fun h _ => ?_) (fun h _ => ?_)
    · refine r_aload_n (pc := 17) K dX7_lotAt_17 rfl ?_
      refine r_getR (pc := 18) K dX7_lotAt_18 fk_RX7_23 h (fun r25 h => ?_)
      refine r_iload_n (pc := 21) K dX7_lotAt_21 rfl ?_
      refine nn_k h (fun a26 hz hq26 => ?_)
      subst hz
      have h := hq26
      refine r_aald (pc := 22) K dX7_lotAt_22 (k0 := 4) rfl h (fun r27 h => ?_)
      exact r_weak (lv2 := [none, none, none]) trivial (r_widen (by decide) (by decide) (B_X7_lotAt_b23 K hr E  _ _ h))
    · exact r_weak (lv2 := [none, none, none]) trivial (r_widen (by decide) (by decide) (B_X7_lotAt_b13 K hr E   _ h))
def rm_X1_roundsOfARoll : Room := { frames := 0, cells := 0, slots := 0, locals := 0 }
set_option maxRecDepth 100000 in
set_option maxHeartbeats 4000000 in
theorem M_X1_roundsOfARoll {D : va_G} {cA : Nat → ClassId} {h0 : Nat} {l : Launch} (hl : l.stackTraces = false) (a0 : Nat) (hp : hpT) (res : (Int32 ⊕ String) × hpT) (h : F_X1_roundsOfARoll a0 hp = some res) : vx_Met l yX1_roundsOfARoll (wsm yX1_roundsOfARoll cX1_roundsOfARoll 2 (some .int)) rm_X1_roundsOfARoll (va_Pc [va_rf (some a0)] (Pre strL D cA h0 hp)) (QI D cA h0 res) (XE D cA h0 res) 0 0 (Af h0) := by
  unfold F_X1_roundsOfARoll at h
  refine g_entry (by decide +kernel) hl (cat_c rfl (cat_n)) (Nat.le_of_ble_eq_true rfl) (lv := [some (va_rf (some a0)), none]) rfl ?_
  intro p e s m args below meth c K hr E hn
  have K : Cx strL D cA h0 p l s m args meth c cX1_roundsOfARoll RX1 2 := K
  refine r_aload_n (pc := 0) K dX1_roundsOfARoll_0 rfl ?_
  refine r_getR (pc := 1) K dX1_roundsOfARoll_1 fk_RX1_7 h (fun r21 h => ?_)
  refine nn_k h (fun a22 hz hq22 => ?_)
  subst hz
  have h := hq22
  refine r_getI (pc := 4) K dX1_roundsOfARoll_4 fk_RX1_26 h (fun x23 h => ?_)
  refine r_istore_n (pc := 7) (lv' := [some (va_rf (some a0)), some (.int x23)]) K dX1_roundsOfARoll_7 (by decide) rfl ?_
  refine r_iload_n (pc := 8) K dX1_roundsOfARoll_8 rfl ?_
  refine r_iconst (pc := 9) (v := 1) K dX1_roundsOfARoll_9 (by decide) ?_
  refine r_icmp_ge (pc := 10) (tgt := 17) K dX1_roundsOfARoll_10 (by decide) h (fun h _ => ?_) (fun h _ => ?_)
  · refine r_aload_n (pc := 17) K dX1_roundsOfARoll_17 rfl ?_
    refine r_getI (pc := 18) K dX1_roundsOfARoll_18 fk_RX1_23 h (fun x24 h => ?_)
    refine r_iload_n (pc := 21) K dX1_roundsOfARoll_21 rfl ?_
    refine r_iadd (pc := 22) K dX1_roundsOfARoll_22 ?_
    refine r_iconst (pc := 23) (v := 1) K dX1_roundsOfARoll_23 (by decide) ?_
    refine r_isub (pc := 24) K dX1_roundsOfARoll_24 ?_
    refine r_iload_n (pc := 25) K dX1_roundsOfARoll_25 rfl ?_
    refine r_idiv (pc := 26) K dX1_roundsOfARoll_26 h (fun h => ?_)
    exact r_ireturn (pc := 27) K hr dX1_roundsOfARoll_27 h (by decide) (by decide)
  · refine r_iconst (pc := 13) (v := 0) K dX1_roundsOfARoll_13 (by decide) ?_
    refine r_goto (pc := 14) (tgt := 27) K dX1_roundsOfARoll_14 (by decide) ?_
    exact r_ireturn (pc := 27) K hr dX1_roundsOfARoll_27 h (by decide) (by decide)
def rm_X7_lotOf : Room := { frames := 7, cells := 2, slots := 12, locals := 112 }
set_option maxRecDepth 100000 in
set_option maxHeartbeats 4000000 in
theorem M_X7_lotOf {D : va_G} {cA : Nat → ClassId} {h0 : Nat} {l : Launch} (hl : l.stackTraces = false) (a0 : Nat) (x1 : Int32) (x2 : Int32) (hp : hpT) (res : (Int32 ⊕ String) × hpT) (h : F_X7_lotOf a0 x1 x2 hp = some res) : vx_Met l yX7_lotOf (wsm yX7_lotOf cX7_lotOf 4 (some .int)) rm_X7_lotOf (va_Pc [va_rf (some a0), .int x1, .int x2] (Pre strL D cA h0 hp)) (QI D cA h0 res) (XE D cA h0 res) 2 12 (Af h0) := by
  unfold F_X7_lotOf at h
  refine g_entry (by decide +kernel) hl (cat_c rfl (cat_c rfl (cat_c rfl (cat_n)))) (Nat.le_of_ble_eq_true rfl) (lv := [some (va_rf (some a0)), some (.int x1), some (.int x2), none]) rfl ?_
  intro p e s m args below meth c K hr E hn
  have K : Cx strL D cA h0 p l s m args meth c cX7_lotOf RX7 4 := K
  refine r_aload_n (pc := 0) K dX7_lotOf_0 rfl ?_
  refine r_iload_n (pc := 1) K dX7_lotOf_1 rfl ?_
  refine v_ref (pc := 2) (st := []) (As := [.int x1]) (b := a0) (ci := 7) (q0 := (RX7, TX7, 8)) K E (fun _ e1 => M_X7_lotAt K.2.2.2.2.2.2.1 _ _ _ _ e1) h dX7_lotOf_2 ce_X7_lotAt cv_X7_lotAt lk_RX7_122 rfl rfl rfl rfl (by decide) rfl rfl (Nat.le_of_ble_eq_true rfl) rfl rfl (by decide) (by decide) (fun a21 h21 h => ?_)
  refine r_astore_n (pc := 5) (lv' := [some (va_rf (some a0)), some (.int x1), some (.int x2), some (va_rf (some a21))]) K dX7_lotOf_5 (by decide) rfl ?_
  refine r_iload_n (pc := 6) K dX7_lotOf_6 rfl ?_
  rcases tsw_if h with ⟨c0, h⟩ | ⟨c0, h⟩
  · refine r_tswIn (pc := 7) (off := 33) (tgt := 40) K c0 dX7_lotOf_7 (by decide) (by decide) (by decide) (by decide) ?_
    refine r_aload_n (pc := 40) K dX7_lotOf_40 rfl ?_
    refine r_getI (pc := 41) K dX7_lotOf_41 fk_RX7_126 h (fun x22 h => ?_)
    exact r_ireturn (pc := 44) K hr dX7_lotOf_44 h (by decide) (by decide)
  · rcases tsw_if h with ⟨c1, h⟩ | ⟨c1, h⟩
    · refine r_tswIn (pc := 7) (off := 38) (tgt := 45) K c1 dX7_lotOf_7 (by decide) (by decide) (by decide) (by decide) ?_
      refine r_aload_n (pc := 45) K dX7_lotOf_45 rfl ?_
      refine r_getI (pc := 46) K dX7_lotOf_46 fk_RX7_129 h (fun x23 h => ?_)
      exact r_ireturn (pc := 49) K hr dX7_lotOf_49 h (by decide) (by decide)
    · rcases tsw_if h with ⟨c2, h⟩ | ⟨c2, h⟩
      · refine r_tswIn (pc := 7) (off := 43) (tgt := 50) K c2 dX7_lotOf_7 (by decide) (by decide) (by decide) (by decide) ?_
        refine r_aload_n (pc := 50) K dX7_lotOf_50 rfl ?_
        refine r_getI (pc := 51) K dX7_lotOf_51 fk_RX7_132 h (fun x24 h => ?_)
        exact r_ireturn (pc := 54) K hr dX7_lotOf_54 h (by decide) (by decide)
      · rcases tsw_if h with ⟨c3, h⟩ | ⟨c3, h⟩
        · refine r_tswIn (pc := 7) (off := 48) (tgt := 55) K c3 dX7_lotOf_7 (by decide) (by decide) (by decide) (by decide) ?_
          refine r_aload_n (pc := 55) K dX7_lotOf_55 rfl ?_
          refine r_getI (pc := 56) K dX7_lotOf_56 fk_RX7_135 h (fun x25 h => ?_)
          exact r_ireturn (pc := 59) K hr dX7_lotOf_59 h (by decide) (by decide)
        · rcases tsw_if h with ⟨c4, h⟩ | ⟨c4, h⟩
          · refine r_tswIn (pc := 7) (off := 53) (tgt := 60) K c4 dX7_lotOf_7 (by decide) (by decide) (by decide) (by decide) ?_
            refine r_aload_n (pc := 60) K dX7_lotOf_60 rfl ?_
            refine v_int (pc := 61) (st := []) (As := []) (b := a21) (ci := 1) (q0 := (RX1, TX1, 5)) K E (fun _ e1 => M_X1_roundsOfARoll K.2.2.2.2.2.2.1 _ _ _ e1) h dX7_lotOf_61 ce_X1_roundsOfARoll cv_X1_roundsOfARoll lk_RX7_138 rfl rfl rfl rfl (by decide) rfl rfl (Nat.le_of_ble_eq_true rfl) rfl rfl (by decide) (by decide) (fun x26 h26 h => ?_)
            exact r_ireturn (pc := 64) K hr dX7_lotOf_64 h (by decide) (by decide)
          · refine r_tswOut (pc := 7) (tgt := 65) K dX7_lotOf_7 (by have e0 := lv_neT (a := 0) c0 (by decide); have e1 := lv_neT (a := 1) c1 (by decide); have e2 := lv_neT (a := 2) c2 (by decide); have e3 := lv_neT (a := 3) c3 (by decide); have e4 := lv_neT (a := 4) c4 (by decide); omega) (by decide) ?_
            exact r_throw (pc := 65) K E dX7_lotOf_65 dX7_lotOf_68 dX7_lotOf_69 dX7_lotOf_71 dX7_lotOf_74 th_RX7_38_42 st_RX7_142 h (Nat.le_of_ble_eq_true rfl) (Nat.le_of_ble_eq_true rfl) (by decide) (by decide) (by decide) (by decide)
def rm_X7_roomAt : Room := { frames := 6, cells := 1, slots := 6, locals := 90 }
set_option maxRecDepth 100000 in
set_option maxHeartbeats 4000000 in
theorem B_X7_roomAt_b23 (K : Cx strL D cA h0 p l s m args meth c cX7_roomAt RX7 3) (hr : meth.sig.returnType = (some (.object "RollerLeaf$Room"))) (E : ∀ x ∈ c.exceptionTable.toList, False) {res : (Nat ⊕ String) × hpT} : ∀ (rs0 : Option Nat) (hp : hpT), F_X7_roomAt_b23  rs0 hp = some res → G D cA h0 p l e rm_X7_roomAt s m args below meth c 3 (vx_MQ below (QR D cA h0 res) (XE D cA h0 res) args s 1 6 (Af h0)) 0 0 hp 23 [none, none, none] [va_rf rs0] := by
  intro rs0 hp h
  unfold F_X7_roomAt_b23 at h
  refine r_astore_n (pc := 23) (lv' := [none, none, some (va_rf rs0)]) K dX7_roomAt_23 (by decide) rfl ?_
  refine r_aload_n (pc := 24) K dX7_roomAt_24 rfl ?_
  refine r_ifnonnull (pc := 25) (tgt := 38) K dX7_roomAt_25 (by decide) h (fun hz hq21 => ?_) (fun a21 hz hq21 => ?_)
  · subst hz
    have h := hq21
    exact r_throw (pc := 28) K E dX7_roomAt_28 dX7_roomAt_31 dX7_roomAt_32 dX7_roomAt_34 dX7_roomAt_37 th_RX7_70_74 st_RX7_255 h (Nat.le_of_ble_eq_true rfl) (Nat.le_of_ble_eq_true rfl) (by decide) (by decide) (by decide) (by decide)
  · subst hz
    have h := hq21
    refine r_aload_n (pc := 38) K dX7_roomAt_38 rfl ?_
    exact r_areturn (pc := 39) K hr dX7_roomAt_39 h (by decide) (by decide)
set_option maxRecDepth 100000 in
set_option maxHeartbeats 4000000 in
theorem B_X7_roomAt_b13 (K : Cx strL D cA h0 p l s m args meth c cX7_roomAt RX7 3) (hr : meth.sig.returnType = (some (.object "RollerLeaf$Room"))) (E : ∀ x ∈ c.exceptionTable.toList, False) {res : (Nat ⊕ String) × hpT} : ∀ (hp : hpT), F_X7_roomAt_b13   hp = some res → G D cA h0 p l e rm_X7_roomAt s m args below meth c 3 (vx_MQ below (QR D cA h0 res) (XE D cA h0 res) args s 1 6 (Af h0)) 0 0 hp 13 [none, none, none] [] := by
  intro  hp h
  unfold F_X7_roomAt_b13 at h
  refine r_null (pc := 13) K dX7_roomAt_13 ?_
  refine r_goto (pc := 14) (tgt := 23) K dX7_roomAt_14 (by decide) ?_
  exact r_weak (lv2 := [none, none, none]) trivial (r_widen (by decide) (by decide) (B_X7_roomAt_b23 K hr E  _ _ h))
set_option maxRecDepth 100000 in
set_option maxHeartbeats 4000000 in
theorem M_X7_roomAt {D : va_G} {cA : Nat → ClassId} {h0 : Nat} {l : Launch} (hl : l.stackTraces = false) (a0 : Nat) (x1 : Int32) (hp : hpT) (res : (Nat ⊕ String) × hpT) (h : F_X7_roomAt a0 x1 hp = some res) : vx_Met l yX7_roomAt (wsm yX7_roomAt cX7_roomAt 3 (some (.object "RollerLeaf$Room"))) rm_X7_roomAt (va_Pc [va_rf (some a0), .int x1] (Pre strL D cA h0 hp)) (QR D cA h0 res) (XE D cA h0 res) 1 6 (Af h0) := by
  unfold F_X7_roomAt at h
  refine g_entry (by decide +kernel) hl (cat_c rfl (cat_c rfl (cat_n))) (Nat.le_of_ble_eq_true rfl) (lv := [some (va_rf (some a0)), some (.int x1), none]) rfl ?_
  intro p e s m args below meth c K hr E hn
  have K : Cx strL D cA h0 p l s m args meth c cX7_roomAt RX7 3 := K
  refine r_iload_n (pc := 0) K dX7_roomAt_0 rfl ?_
  refine r_if_lt (pc := 1) (tgt := 13) K dX7_roomAt_1 (by decide) h (fun h _ => ?_) (fun h _ => ?_)
  · exact r_weak (lv2 := [none, none, none]) trivial (r_widen (by decide) (by decide) (B_X7_roomAt_b13 K hr E   _ h))
  · refine r_iload_n (pc := 4) K dX7_roomAt_4 rfl ?_
    refine r_aload_n (pc := 5) K dX7_roomAt_5 rfl ?_
    refine r_getR (pc := 6) K dX7_roomAt_6 fk_RX7_29 h (fun r22 h => ?_)
    refine nn_k h (fun a23 hz hq23 => ?_)
    subst hz
    have h := hq23
    refine r_alen (pc := 9) K dX7_roomAt_9 h (fun x24 h => ?_)
    refine r_icmp_lt (pc := 10) (tgt := 17) K dX7_roomAt_10 (by decide) h (fun h _ => ?_) (fun h _ => ?_)
    · refine r_aload_n (pc := 17) K dX7_roomAt_17 rfl ?_
      refine r_getR (pc := 18) K dX7_roomAt_18 fk_RX7_29 h (fun r25 h => ?_)
      refine r_iload_n (pc := 21) K dX7_roomAt_21 rfl ?_
      refine nn_k h (fun a26 hz hq26 => ?_)
      subst hz
      have h := hq26
      refine r_aald (pc := 22) K dX7_roomAt_22 (k0 := 5) rfl h (fun r27 h => ?_)
      exact r_weak (lv2 := [none, none, none]) trivial (r_widen (by decide) (by decide) (B_X7_roomAt_b23 K hr E  _ _ h))
    · exact r_weak (lv2 := [none, none, none]) trivial (r_widen (by decide) (by decide) (B_X7_roomAt_b13 K hr E   _ h))
def rm_X5_isHung : Room := { frames := 0, cells := 0, slots := 0, locals := 0 }
set_option maxRecDepth 100000 in
set_option maxHeartbeats 4000000 in
theorem M_X5_isHung {D : va_G} {cA : Nat → ClassId} {h0 : Nat} {l : Launch} (hl : l.stackTraces = false) (a0 : Nat) (hp : hpT) (res : (Int32 ⊕ String) × hpT) (h : F_X5_isHung a0 hp = some res) : vx_Met l yX5_isHung (wsm yX5_isHung cX5_isHung 1 (some .boolean)) rm_X5_isHung (va_Pc [va_rf (some a0)] (Pre strL D cA h0 hp)) (QI D cA h0 res) (XE D cA h0 res) 0 0 (Af h0) := by
  unfold F_X5_isHung at h
  refine g_entry (by decide +kernel) hl (cat_c rfl (cat_n)) (Nat.le_of_ble_eq_true rfl) (lv := [some (va_rf (some a0))]) rfl ?_
  intro p e s m args below meth c K hr E hn
  have K : Cx strL D cA h0 p l s m args meth c cX5_isHung RX5 1 := K
  refine r_aload_n (pc := 0) K dX5_isHung_0 rfl ?_
  refine r_getR (pc := 1) K dX5_isHung_1 fk_RX5_24 h (fun r21 h => ?_)
  refine r_ifnull (pc := 4) (tgt := 11) K dX5_isHung_4 (by decide) h (fun hz hq22 => ?_) (fun a22 hz hq22 => ?_)
  · subst hz
    have h := hq22
    refine r_iconst (pc := 11) (v := 0) K dX5_isHung_11 (by decide) ?_
    exact r_zreturn (pc := 12) K hr dX5_isHung_12 h (by decide) (by decide)
  · subst hz
    have h := hq22
    refine r_iconst (pc := 7) (v := 1) K dX5_isHung_7 (by decide) ?_
    refine r_goto (pc := 8) (tgt := 12) K dX5_isHung_8 (by decide) ?_
    exact r_zreturn (pc := 12) K hr dX5_isHung_12 h (by decide) (by decide)
def rm_X6_init : Room := { frames := 1, cells := 1, slots := 24, locals := 20 }
set_option maxRecDepth 100000 in
set_option maxHeartbeats 4000000 in
theorem M_X6_init {D : va_G} {cA : Nat → ClassId} {h0 : Nat} {l : Launch} (hl : l.stackTraces = false) (a0 : Nat) (x1 : Int32) (x2 : Int32) (hp : hpT) (res : (Unit ⊕ String) × hpT) (h : F_X6_init a0 x1 x2 hp = some res) : vx_Met l yX6_init (wsm yX6_init cX6_init 3 none) rm_X6_init (va_Pc [va_rf (some a0), .int x1, .int x2] (Pre strL D cA h0 hp)) (QV D cA h0 res) (XE D cA h0 res) 1 24 (Af h0) := by
  unfold F_X6_init at h
  refine g_entry (by decide +kernel) hl (cat_c rfl (cat_c rfl (cat_c rfl (cat_n)))) (Nat.le_of_ble_eq_true rfl) (lv := [some (va_rf (some a0)), some (.int x1), some (.int x2)]) rfl ?_
  intro p e s m args below meth c K hr E hn
  have K : Cx strL D cA h0 p l s m args meth c cX6_init RX6 3 := K
  refine r_aload_n (pc := 0) K dX6_init_0 rfl ?_
  refine r_objInit (pc := 1) K dX6_init_1 oi_RX6_3 oi_i oi_c (Nat.le_of_ble_eq_true rfl) (Nat.le_of_ble_eq_true rfl) ?_
  refine r_aload_n (pc := 4) K dX6_init_4 rfl ?_
  refine r_bipush (pc := 5) (v := 24) K dX6_init_5 (by decide) ?_
  refine r_newI (pc := 7) (N := 24) K dX6_init_7 ac_int (by decide) (by decide) (by decide) (by decide) (by decide) h (fun a21 h21 h => ?_)
  refine r_putF (pc := 9) K hn dX6_init_9 fk_RX6_9 ff_6_1 rfl rfl h (fun h22 h => ?_)
  refine r_aload_n (pc := 12) K dX6_init_12 rfl ?_
  refine r_iload_n (pc := 13) K dX6_init_13 rfl ?_
  refine r_put (pc := 14) K dX6_init_14 fk_RX6_15 fn_6_2 rfl rfl h (fun h23 h => ?_)
  refine r_aload_n (pc := 17) K dX6_init_17 rfl ?_
  refine r_iload_n (pc := 18) K dX6_init_18 rfl ?_
  refine r_putF (pc := 19) K hn dX6_init_19 fk_RX6_19 ff_6_0 rfl rfl h (fun h24 h => ?_)
  exact r_vreturn (pc := 22) K hr dX6_init_22 h (by decide) (by decide)
def rm_X5_addWall : Room := { frames := 2, cells := 2, slots := 27, locals := 42 }
set_option maxRecDepth 100000 in
set_option maxHeartbeats 4000000 in
theorem M_X5_addWall {D : va_G} {cA : Nat → ClassId} {h0 : Nat} {l : Launch} (hl : l.stackTraces = false) (a0 : Nat) (x1 : Int32) (x2 : Int32) (hp : hpT) (res : (Int32 ⊕ String) × hpT) (h : F_X5_addWall a0 x1 x2 hp = some res) : vx_Met l yX5_addWall (wsm yX5_addWall cX5_addWall 4 (some .int)) rm_X5_addWall (va_Pc [va_rf (some a0), .int x1, .int x2] (Pre strL D cA h0 hp)) (QI D cA h0 res) (XE D cA h0 res) 2 27 (Af h0) := by
  unfold F_X5_addWall at h
  refine g_entry (by decide +kernel) hl (cat_c rfl (cat_c rfl (cat_c rfl (cat_n)))) (Nat.le_of_ble_eq_true rfl) (lv := [some (va_rf (some a0)), some (.int x1), some (.int x2), none]) rfl ?_
  intro p e s m args below meth c K hr E hn
  have K : Cx strL D cA h0 p l s m args meth c cX5_addWall RX5 4 := K
  refine r_aload_n (pc := 0) K dX5_addWall_0 rfl ?_
  refine r_getI (pc := 1) K dX5_addWall_1 fk_RX5_28 h (fun x21 h => ?_)
  refine r_istore_n (pc := 4) (lv' := [some (va_rf (some a0)), some (.int x1), some (.int x2), some (.int x21)]) K dX5_addWall_4 (by decide) rfl ?_
  refine r_iload_n (pc := 5) K dX5_addWall_5 rfl ?_
  refine r_if_lt (pc := 6) (tgt := 18) K dX5_addWall_6 (by decide) h (fun h _ => ?_) (fun h _ => ?_)
  · refine r_iconst (pc := 18) (v := (-1)) K dX5_addWall_18 (by decide) ?_
    exact r_ireturn (pc := 19) K hr dX5_addWall_19 h (by decide) (by decide)
  · refine r_iload_n (pc := 9) K dX5_addWall_9 rfl ?_
    refine r_aload_n (pc := 10) K dX5_addWall_10 rfl ?_
    refine r_getR (pc := 11) K dX5_addWall_11 fk_RX5_11 h (fun r22 h => ?_)
    refine nn_k h (fun a23 hz hq23 => ?_)
    subst hz
    have h := hq23
    refine r_alen (pc := 14) K dX5_addWall_14 h (fun x24 h => ?_)
    refine r_icmp_lt (pc := 15) (tgt := 20) K dX5_addWall_15 (by decide) h (fun h _ => ?_) (fun h _ => ?_)
    · refine r_aload_n (pc := 20) K dX5_addWall_20 rfl ?_
      refine r_getR (pc := 21) K dX5_addWall_21 fk_RX5_11 h (fun r25 h => ?_)
      refine r_iload_n (pc := 24) K dX5_addWall_24 rfl ?_
      refine r_new (pc := 25) K dX5_addWall_25 cl_RX5_9 nw_6 (by decide) (by decide) h (fun a26 h26 h => ?_)
      refine r_dup (pc := 28) K dX5_addWall_28 rfl ?_
      refine r_iload_n (pc := 29) K dX5_addWall_29 rfl ?_
      refine r_iload_n (pc := 30) K dX5_addWall_30 rfl ?_
      refine i_void (pc := 31) (st := [va_rf (some a26), .int x21, va_rf r25]) (As := [.int x1, .int x2]) (b := a26) K E (fun _ e1 => M_X6_init K.2.2.2.2.2.2.1 _ _ _ _ _ e1) h dX5_addWall_31 ce_X6_init ci_X6_init lk_RX5_32 rfl rfl (by decide) rfl rfl (mcat_le (cat_c rfl (cat_c rfl (cat_c (va_rf_cat _) (cat_n)))) (Nat.le_of_ble_eq_true rfl)) rfl rfl (by decide) (by decide) (fun _ h27 h => ?_)
      refine nn_k h (fun a28 hz hq28 => ?_)
      subst hz
      have h := hq28
      refine r_aast (pc := 34) K dX5_addWall_34 (k0 := 6) (ci := 6) (q0 := (RX6, TX6, 3)) rfl rfl h (fun h29 h => ?_)
      refine r_aload_n (pc := 35) K dX5_addWall_35 rfl ?_
      refine r_iload_n (pc := 36) K dX5_addWall_36 rfl ?_
      refine r_iconst (pc := 37) (v := 1) K dX5_addWall_37 (by decide) ?_
      refine r_iadd (pc := 38) K dX5_addWall_38 ?_
      refine r_put (pc := 39) K dX5_addWall_39 fk_RX5_28 fn_5_2 rfl rfl h (fun h30 h => ?_)
      refine r_iload_n (pc := 42) K dX5_addWall_42 rfl ?_
      exact r_ireturn (pc := 43) K hr dX5_addWall_43 h (by decide) (by decide)
    · refine r_iconst (pc := 18) (v := (-1)) K dX5_addWall_18 (by decide) ?_
      exact r_ireturn (pc := 19) K hr dX5_addWall_19 h (by decide) (by decide)
def rm_X7_wall : Room := { frames := 7, cells := 6, slots := 51, locals := 112 }
set_option maxRecDepth 100000 in
set_option maxHeartbeats 4000000 in
theorem M_X7_wall {D : va_G} {cA : Nat → ClassId} {h0 : Nat} {l : Launch} (hl : l.stackTraces = false) (a0 : Nat) (x1 : Int32) (x2 : Int32) (x3 : Int32) (hp : hpT) (res : (Int32 ⊕ String) × hpT) (h : F_X7_wall a0 x1 x2 x3 hp = some res) : vx_Met l yX7_wall (wsm yX7_wall cX7_wall 6 (some .int)) rm_X7_wall (va_Pc [va_rf (some a0), .int x1, .int x2, .int x3] (Pre strL D cA h0 hp)) (QI D cA h0 res) (XE D cA h0 res) 6 51 (Af h0) := by
  unfold F_X7_wall at h
  refine g_entry (by decide +kernel) hl (cat_c rfl (cat_c rfl (cat_c rfl (cat_c rfl (cat_n))))) (Nat.le_of_ble_eq_true rfl) (lv := [some (va_rf (some a0)), some (.int x1), some (.int x2), some (.int x3), none, none]) rfl ?_
  intro p e s m args below meth c K hr E hn
  have K : Cx strL D cA h0 p l s m args meth c cX7_wall RX7 6 := K
  refine r_aload_n (pc := 0) K dX7_wall_0 rfl ?_
  refine r_iload_n (pc := 1) K dX7_wall_1 rfl ?_
  refine v_ref (pc := 2) (st := []) (As := [.int x1]) (b := a0) (ci := 7) (q0 := (RX7, TX7, 8)) K E (fun _ e1 => M_X7_roomAt K.2.2.2.2.2.2.1 _ _ _ _ e1) h dX7_wall_2 ce_X7_roomAt cv_X7_roomAt lk_RX7_144 rfl rfl rfl rfl (by decide) rfl rfl (Nat.le_of_ble_eq_true rfl) rfl rfl (by decide) (by decide) (fun a21 h21 h => ?_)
  refine r_astore (pc := 5) (lv' := [some (va_rf (some a0)), some (.int x1), some (.int x2), some (.int x3), some (va_rf (some a21)), none]) K dX7_wall_5 (by decide) rfl ?_
  refine r_iload_n (pc := 7) K dX7_wall_7 rfl ?_
  refine r_iconst (pc := 8) (v := 1) K dX7_wall_8 (by decide) ?_
  refine r_bipush (pc := 9) (v := 12) K dX7_wall_9 (by decide) ?_
  refine s_void (pc := 11) (st := []) (As := [.int x2, .int 1, .int 12]) K E (fun _ e1 => M_X7_requireWithin K.2.2.2.2.2.2.1 _ _ _ _ _ e1) h dX7_wall_11 ce_X7_requireWithin cs_X7_requireWithin lk_RX7_34 rfl rfl (by decide) rfl rfl (Nat.le_of_ble_eq_true rfl) rfl rfl (by decide) (by decide) (fun _ h22 h => ?_)
  refine r_iload_n (pc := 14) K dX7_wall_14 rfl ?_
  refine r_iconst (pc := 15) (v := 1) K dX7_wall_15 (by decide) ?_
  refine r_bipush (pc := 16) (v := 60) K dX7_wall_16 (by decide) ?_
  refine s_void (pc := 18) (st := []) (As := [.int x3, .int 1, .int 60]) K E (fun _ e1 => M_X7_requireWithin K.2.2.2.2.2.2.1 _ _ _ _ _ e1) h dX7_wall_18 ce_X7_requireWithin cs_X7_requireWithin lk_RX7_34 rfl rfl (by decide) rfl rfl (Nat.le_of_ble_eq_true rfl) rfl rfl (by decide) (by decide) (fun _ h23 h => ?_)
  refine r_aload (pc := 21) K dX7_wall_21 rfl ?_
  refine v_int (pc := 23) (st := []) (As := []) (b := a21) (ci := 5) (q0 := (RX5, TX5, 5)) K E (fun _ e1 => M_X5_isHung K.2.2.2.2.2.2.1 _ _ _ e1) h dX7_wall_23 ce_X5_isHung cv_X5_isHung lk_RX7_148 rfl rfl rfl rfl (by decide) rfl rfl (Nat.le_of_ble_eq_true rfl) rfl rfl (by decide) (by decide) (fun x24 h24 h => ?_)
  refine r_if_eq (pc := 26) (tgt := 39) K dX7_wall_26 (by decide) h (fun h _ => ?_) (fun h _ => ?_)
  · refine r_aload (pc := 39) K dX7_wall_39 rfl ?_
    refine r_iload_n (pc := 41) K dX7_wall_41 rfl ?_
    refine r_iload_n (pc := 42) K dX7_wall_42 rfl ?_
    refine v_int (pc := 43) (st := []) (As := [.int x2, .int x3]) (b := a21) (ci := 5) (q0 := (RX5, TX5, 5)) K E (fun _ e1 => M_X5_addWall K.2.2.2.2.2.2.1 _ _ _ _ _ e1) h dX7_wall_43 ce_X5_addWall cv_X5_addWall lk_RX7_154 rfl rfl rfl rfl (by decide) rfl rfl (Nat.le_of_ble_eq_true rfl) rfl rfl (by decide) (by decide) (fun x25 h25 h => ?_)
    refine r_istore (pc := 46) (lv' := [some (va_rf (some a0)), some (.int x1), some (.int x2), some (.int x3), some (va_rf (some a21)), some (.int x25)]) K dX7_wall_46 (by decide) rfl ?_
    refine r_iload (pc := 48) K dX7_wall_48 rfl ?_
    refine r_iconst (pc := 50) (v := (-1)) K dX7_wall_50 (by decide) ?_
    refine r_icmp_ne (pc := 51) (tgt := 64) K dX7_wall_51 (by decide) h (fun h _ => ?_) (fun h _ => ?_)
    · refine r_iload (pc := 64) K dX7_wall_64 rfl ?_
      exact r_ireturn (pc := 66) K hr dX7_wall_66 h (by decide) (by decide)
    · exact r_throw (pc := 54) K E dX7_wall_54 dX7_wall_57 dX7_wall_58 dX7_wall_60 dX7_wall_63 th_RX7_49_53 st_RX7_157 h (Nat.le_of_ble_eq_true rfl) (Nat.le_of_ble_eq_true rfl) (by decide) (by decide) (by decide) (by decide)
  · exact r_throw (pc := 29) K E dX7_wall_29 dX7_wall_32 dX7_wall_33 dX7_wall_35 dX7_wall_38 th_RX7_49_53 st_RX7_152 h (Nat.le_of_ble_eq_true rfl) (Nat.le_of_ble_eq_true rfl) (by decide) (by decide) (by decide) (by decide)
def rm_X2_beginAnew : Room := { frames := 0, cells := 0, slots := 0, locals := 0 }
set_option maxRecDepth 100000 in
set_option maxHeartbeats 4000000 in
theorem M_X2_beginAnew {D : va_G} {cA : Nat → ClassId} {h0 : Nat} {l : Launch} (hl : l.stackTraces = false) (a0 : Nat) (a1 : Nat) (x2 : Int32) (hp : hpT) (res : (Unit ⊕ String) × hpT) (h : F_X2_beginAnew a0 a1 x2 hp = some res) : vx_Met l yX2_beginAnew (wsm yX2_beginAnew cX2_beginAnew 3 none) rm_X2_beginAnew (va_Pc [va_rf (some a0), va_rf (some a1), .int x2] (Pre strL D cA h0 hp)) (QV D cA h0 res) (XE D cA h0 res) 0 0 (Af h0) := by
  unfold F_X2_beginAnew at h
  refine g_entry (by decide +kernel) hl (cat_c rfl (cat_c rfl (cat_c rfl (cat_n)))) (Nat.le_of_ble_eq_true rfl) (lv := [some (va_rf (some a0)), some (va_rf (some a1)), some (.int x2)]) rfl ?_
  intro p e s m args below meth c K hr E hn
  have K : Cx strL D cA h0 p l s m args meth c cX2_beginAnew RX2 3 := K
  refine r_aload_n (pc := 0) K dX2_beginAnew_0 rfl ?_
  refine r_iconst (pc := 1) (v := 0) K dX2_beginAnew_1 (by decide) ?_
  refine r_put (pc := 2) K dX2_beginAnew_2 fk_RX2_15 fn_2_1 rfl rfl h (fun h21 h => ?_)
  refine r_aload_n (pc := 5) K dX2_beginAnew_5 rfl ?_
  refine r_aload_n (pc := 6) K dX2_beginAnew_6 rfl ?_
  refine r_getI (pc := 7) K dX2_beginAnew_7 fk_RX2_19 h (fun x22 h => ?_)
  refine r_put (pc := 10) K dX2_beginAnew_10 fk_RX2_24 fn_2_2 rfl rfl h (fun h23 h => ?_)
  refine r_aload_n (pc := 13) K dX2_beginAnew_13 rfl ?_
  refine r_aload_n (pc := 14) K dX2_beginAnew_14 rfl ?_
  refine r_getI (pc := 15) K dX2_beginAnew_15 fk_RX2_27 h (fun x24 h => ?_)
  refine r_put (pc := 18) K dX2_beginAnew_18 fk_RX2_30 fn_2_3 rfl rfl h (fun h25 h => ?_)
  refine r_aload_n (pc := 21) K dX2_beginAnew_21 rfl ?_
  refine r_aload_n (pc := 22) K dX2_beginAnew_22 rfl ?_
  refine r_getR (pc := 23) K dX2_beginAnew_23 fk_RX2_31 h (fun r26 h => ?_)
  refine nn_k h (fun a27 hz hq27 => ?_)
  subst hz
  have h := hq27
  refine r_getR (pc := 26) K dX2_beginAnew_26 fk_RX2_35 h (fun r28 h => ?_)
  refine nn_k h (fun a29 hz hq29 => ?_)
  subst hz
  have h := hq29
  refine r_getI (pc := 29) K dX2_beginAnew_29 fk_RX2_41 h (fun x30 h => ?_)
  refine r_put (pc := 32) K dX2_beginAnew_32 fk_RX2_46 fn_2_4 rfl rfl h (fun h31 h => ?_)
  refine r_aload_n (pc := 35) K dX2_beginAnew_35 rfl ?_
  refine r_iload_n (pc := 36) K dX2_beginAnew_36 rfl ?_
  refine r_put (pc := 37) K dX2_beginAnew_37 fk_RX2_49 fn_2_5 rfl rfl h (fun h32 h => ?_)
  exact r_vreturn (pc := 40) K hr dX2_beginAnew_40 h (by decide) (by decide)
end
