/-! the machine does what the functions say: J9_max_7cf53 X2_takeFromNewRoll X2_takeDrop X6_takeDrops X5_cutAll X5_bestPhase X5_hangFrom X7_hang X7_wallAt X5_lengthenFrom X7_lose X5_makeBare X7_lengthen X7_strip X5_allDrops X5_waste X7_room X7_cut X7_seen X7_lost -/
section
variable {D : va_G} {cA : Nat → ClassId} {h0 : Nat} {p : Program} {l : Launch} {e : Env} {s : State} {m : MethodId} {args : Array Value} {below : List Frame} {meth : Method} {c : Code}
def rm_J9_max_7cf53 : Room := { frames := 0, cells := 0, slots := 0, locals := 0 }
set_option maxRecDepth 100000 in
set_option maxHeartbeats 4000000 in
theorem M_J9_max_7cf53 {D : va_G} {cA : Nat → ClassId} {h0 : Nat} {l : Launch} (hl : l.stackTraces = false) (x0 : Int32) (x1 : Int32) (hp : hpT) (res : (Int32 ⊕ String) × hpT) (h : F_J9_max_7cf53 x0 x1 hp = some res) : vx_Met l yJ9_max_7cf53 (wsm yJ9_max_7cf53 cJ9_max_7cf53 2 (some .int)) rm_J9_max_7cf53 (va_Pc [.int x0, .int x1] (Pre strL D cA h0 hp)) (QI D cA h0 res) (XE D cA h0 res) 0 0 (Af h0) := by
  unfold F_J9_max_7cf53 at h
  refine g_entry (by decide +kernel) hl (cat_c rfl (cat_c rfl (cat_n))) (Nat.le_of_ble_eq_true rfl) (lv := [some (.int x0), some (.int x1)]) rfl ?_
  intro p e s m args below meth c K hr E hn
  have K : Cx strL D cA h0 p l s m args meth c cJ9_max_7cf53 RJ9 2 := K
  refine r_iload_n (pc := 0) K dJ9_max_7cf53_0 rfl ?_
  refine r_iload_n (pc := 1) K dJ9_max_7cf53_1 rfl ?_
  refine r_icmp_lt (pc := 2) (tgt := 9) K dJ9_max_7cf53_2 (by decide) h (fun h _ => ?_) (fun h _ => ?_)
  · refine r_iload_n (pc := 9) K dJ9_max_7cf53_9 rfl ?_
    exact r_ireturn (pc := 10) K hr dJ9_max_7cf53_10 h (by decide) (by decide)
  · refine r_iload_n (pc := 5) K dJ9_max_7cf53_5 rfl ?_
    refine r_goto (pc := 6) (tgt := 10) K dJ9_max_7cf53_6 (by decide) ?_
    exact r_ireturn (pc := 10) K hr dJ9_max_7cf53_10 h (by decide) (by decide)
def rm_X2_takeFromNewRoll : Room := { frames := 0, cells := 0, slots := 0, locals := 0 }
set_option maxRecDepth 100000 in
set_option maxHeartbeats 4000000 in
theorem B_X2_takeFromNewRoll_b31 (K : Cx strL D cA h0 p l s m args meth c cX2_takeFromNewRoll RX2 4) (hr : meth.sig.returnType = (some .int)) (E : ∀ x ∈ c.exceptionTable.toList, False) {res : (Int32 ⊕ String) × hpT} : ∀ (a0 : Nat) (x1 : Int32) (x2 : Int32) (xs0 : Int32) (hp : hpT), F_X2_takeFromNewRoll_b31  a0 x1 x2 xs0 hp = some res → G D cA h0 p l e rm_X2_takeFromNewRoll s m args below meth c 4 (vx_MQ below (QI D cA h0 res) (XE D cA h0 res) args s 0 0 (Af h0)) 0 0 hp 31 [some (va_rf (some a0)), some (.int x1), some (.int x2), none] [.int xs0] := by
  intro a0 x1 x2 xs0 hp h
  unfold F_X2_takeFromNewRoll_b31 at h
  refine r_istore_n (pc := 31) (lv' := [some (va_rf (some a0)), some (.int x1), some (.int x2), some (.int xs0)]) K dX2_takeFromNewRoll_31 (by decide) rfl ?_
  refine r_iload_n (pc := 32) K dX2_takeFromNewRoll_32 rfl ?_
  refine r_if_eq (pc := 33) (tgt := 49) K dX2_takeFromNewRoll_33 (by decide) h (fun h _ => ?_) (fun h _ => ?_)
  · refine r_iconst (pc := 49) (v := (-1)) K dX2_takeFromNewRoll_49 (by decide) ?_
    exact r_ireturn (pc := 50) K hr dX2_takeFromNewRoll_50 h (by decide) (by decide)
  · refine r_aload_n (pc := 36) K dX2_takeFromNewRoll_36 rfl ?_
    refine r_getI (pc := 37) K dX2_takeFromNewRoll_37 fk_RX2_49 h (fun x21 h => ?_)
    refine r_iload_n (pc := 40) K dX2_takeFromNewRoll_40 rfl ?_
    refine r_iadd (pc := 41) K dX2_takeFromNewRoll_41 ?_
    refine r_aload_n (pc := 42) K dX2_takeFromNewRoll_42 rfl ?_
    refine r_getI (pc := 43) K dX2_takeFromNewRoll_43 fk_RX2_30 h (fun x22 h => ?_)
    refine r_icmp_le (pc := 46) (tgt := 51) K dX2_takeFromNewRoll_46 (by decide) h (fun h _ => ?_) (fun h _ => ?_)
    · refine r_aload_n (pc := 51) K dX2_takeFromNewRoll_51 rfl ?_
      refine r_getR (pc := 52) K dX2_takeFromNewRoll_52 fk_RX2_9 h (fun r23 h => ?_)
      refine r_iload_n (pc := 55) K dX2_takeFromNewRoll_55 rfl ?_
      refine r_aload_n (pc := 56) K dX2_takeFromNewRoll_56 rfl ?_
      refine r_getI (pc := 57) K dX2_takeFromNewRoll_57 fk_RX2_49 h (fun x24 h => ?_)
      refine r_iload_n (pc := 60) K dX2_takeFromNewRoll_60 rfl ?_
      refine r_iadd (pc := 61) K dX2_takeFromNewRoll_61 ?_
      refine nn_k h (fun a25 hz hq25 => ?_)
      subst hz
      have h := hq25
      refine r_iast (pc := 62) K dX2_takeFromNewRoll_62 h (fun h26 h => ?_)
      refine r_aload_n (pc := 63) K dX2_takeFromNewRoll_63 rfl ?_
      refine r_iload_n (pc := 64) K dX2_takeFromNewRoll_64 rfl ?_
      refine r_iconst (pc := 65) (v := 1) K dX2_takeFromNewRoll_65 (by decide) ?_
      refine r_iadd (pc := 66) K dX2_takeFromNewRoll_66 ?_
      refine r_put (pc := 67) K dX2_takeFromNewRoll_67 fk_RX2_15 fn_2_1 rfl rfl h (fun h27 h => ?_)
      refine r_sipush (pc := 70) (v := 1000) K dX2_takeFromNewRoll_70 (by decide) ?_
      refine r_iload_n (pc := 73) K dX2_takeFromNewRoll_73 rfl ?_
      refine r_imul (pc := 74) K dX2_takeFromNewRoll_74 ?_
      refine r_aload_n (pc := 75) K dX2_takeFromNewRoll_75 rfl ?_
      refine r_getI (pc := 76) K dX2_takeFromNewRoll_76 fk_RX2_49 h (fun x28 h => ?_)
      refine r_iadd (pc := 79) K dX2_takeFromNewRoll_79 ?_
      exact r_ireturn (pc := 80) K hr dX2_takeFromNewRoll_80 h (by decide) (by decide)
    · refine r_iconst (pc := 49) (v := (-1)) K dX2_takeFromNewRoll_49 (by decide) ?_
      exact r_ireturn (pc := 50) K hr dX2_takeFromNewRoll_50 h (by decide) (by decide)
set_option maxRecDepth 100000 in
set_option maxHeartbeats 4000000 in
theorem B_X2_takeFromNewRoll_b30 (K : Cx strL D cA h0 p l s m args meth c cX2_takeFromNewRoll RX2 4) (hr : meth.sig.returnType = (some .int)) (E : ∀ x ∈ c.exceptionTable.toList, False) {res : (Int32 ⊕ String) × hpT} : ∀ (a0 : Nat) (x1 : Int32) (x2 : Int32) (hp : hpT), F_X2_takeFromNewRoll_b30  a0 x1 x2 hp = some res → G D cA h0 p l e rm_X2_takeFromNewRoll s m args below meth c 4 (vx_MQ below (QI D cA h0 res) (XE D cA h0 res) args s 0 0 (Af h0)) 0 0 hp 30 [some (va_rf (some a0)), some (.int x1), some (.int x2), none] [] := by
  intro a0 x1 x2 hp h
  unfold F_X2_takeFromNewRoll_b30 at h
  refine r_iconst (pc := 30) (v := 0) K dX2_takeFromNewRoll_30 (by decide) ?_
  exact r_weak (lv2 := [some (va_rf (some a0)), some (.int x1), some (.int x2), none]) ⟨rfl, rfl, rfl, trivial⟩ ((B_X2_takeFromNewRoll_b31 K hr E  _ _ _ _ _ h))
set_option maxRecDepth 100000 in
set_option maxHeartbeats 4000000 in
theorem M_X2_takeFromNewRoll {D : va_G} {cA : Nat → ClassId} {h0 : Nat} {l : Launch} (hl : l.stackTraces = false) (a0 : Nat) (x1 : Int32) (hp : hpT) (res : (Int32 ⊕ String) × hpT) (h : F_X2_takeFromNewRoll a0 x1 hp = some res) : vx_Met l yX2_takeFromNewRoll (wsm yX2_takeFromNewRoll cX2_takeFromNewRoll 4 (some .int)) rm_X2_takeFromNewRoll (va_Pc [va_rf (some a0), .int x1] (Pre strL D cA h0 hp)) (QI D cA h0 res) (XE D cA h0 res) 0 0 (Af h0) := by
  unfold F_X2_takeFromNewRoll at h
  refine g_entry (by decide +kernel) hl (cat_c rfl (cat_c rfl (cat_n))) (Nat.le_of_ble_eq_true rfl) (lv := [some (va_rf (some a0)), some (.int x1), none, none]) rfl ?_
  intro p e s m args below meth c K hr E hn
  have K : Cx strL D cA h0 p l s m args meth c cX2_takeFromNewRoll RX2 4 := K
  refine r_aload_n (pc := 0) K dX2_takeFromNewRoll_0 rfl ?_
  refine r_getI (pc := 1) K dX2_takeFromNewRoll_1 fk_RX2_15 h (fun x29 h => ?_)
  refine r_istore_n (pc := 4) (lv' := [some (va_rf (some a0)), some (.int x1), some (.int x29), none]) K dX2_takeFromNewRoll_4 (by decide) rfl ?_
  refine r_iload_n (pc := 5) K dX2_takeFromNewRoll_5 rfl ?_
  refine r_if_lt (pc := 6) (tgt := 30) K dX2_takeFromNewRoll_6 (by decide) h (fun h _ => ?_) (fun h _ => ?_)
  · exact r_weak (lv2 := [some (va_rf (some a0)), some (.int x1), some (.int x29), none]) ⟨rfl, rfl, rfl, trivial⟩ ((B_X2_takeFromNewRoll_b30 K hr E  _ _ _ _ h))
  · refine r_iload_n (pc := 9) K dX2_takeFromNewRoll_9 rfl ?_
    refine r_aload_n (pc := 10) K dX2_takeFromNewRoll_10 rfl ?_
    refine r_getI (pc := 11) K dX2_takeFromNewRoll_11 fk_RX2_24 h (fun x30 h => ?_)
    refine r_icmp_ge (pc := 14) (tgt := 30) K dX2_takeFromNewRoll_14 (by decide) h (fun h _ => ?_) (fun h _ => ?_)
    · exact r_weak (lv2 := [some (va_rf (some a0)), some (.int x1), some (.int x29), none]) ⟨rfl, rfl, rfl, trivial⟩ ((B_X2_takeFromNewRoll_b30 K hr E  _ _ _ _ h))
    · refine r_iload_n (pc := 17) K dX2_takeFromNewRoll_17 rfl ?_
      refine r_aload_n (pc := 18) K dX2_takeFromNewRoll_18 rfl ?_
      refine r_getR (pc := 19) K dX2_takeFromNewRoll_19 fk_RX2_9 h (fun r31 h => ?_)
      refine nn_k h (fun a32 hz hq32 => ?_)
      subst hz
      have h := hq32
      refine r_alen (pc := 22) K dX2_takeFromNewRoll_22 h (fun x33 h => ?_)
      refine r_icmp_ge (pc := 23) (tgt := 30) K dX2_takeFromNewRoll_23 (by decide) h (fun h _ => ?_) (fun h _ => ?_)
      · exact r_weak (lv2 := [some (va_rf (some a0)), some (.int x1), some (.int x29), none]) ⟨rfl, rfl, rfl, trivial⟩ ((B_X2_takeFromNewRoll_b30 K hr E  _ _ _ _ h))
      · refine r_iconst (pc := 26) (v := 1) K dX2_takeFromNewRoll_26 (by decide) ?_
        refine r_goto (pc := 27) (tgt := 31) K dX2_takeFromNewRoll_27 (by decide) ?_
        exact r_weak (lv2 := [some (va_rf (some a0)), some (.int x1), some (.int x29), none]) ⟨rfl, rfl, rfl, trivial⟩ ((B_X2_takeFromNewRoll_b31 K hr E  _ _ _ _ _ h))
def rm_X2_takeDrop : Room := { frames := 1, cells := 0, slots := 0, locals := 23 }
set_option maxRecDepth 100000 in
set_option maxHeartbeats 4000000 in
theorem B_X2_takeDrop_b78 (K : Cx strL D cA h0 p l s m args meth c cX2_takeDrop RX2 4) (hr : meth.sig.returnType = (some .int)) (E : ∀ x ∈ c.exceptionTable.toList, False) {res : (Int32 ⊕ String) × hpT} : ∀ (a0 : Nat) (x1 : Int32) (hp : hpT), F_X2_takeDrop_b78  a0 x1 hp = some res → G D cA h0 p l e rm_X2_takeDrop s m args below meth c 4 (vx_MQ below (QI D cA h0 res) (XE D cA h0 res) args s 0 0 (Af h0)) 0 0 hp 78 [some (va_rf (some a0)), some (.int x1), none, none] [] := by
  intro a0 x1 hp h
  unfold F_X2_takeDrop_b78 at h
  refine r_aload_n (pc := 78) K dX2_takeDrop_78 rfl ?_
  refine r_iload_n (pc := 79) K dX2_takeDrop_79 rfl ?_
  refine v_int (pc := 80) (st := []) (As := [.int x1]) (b := a0) (ci := 2) (q0 := (RX2, TX2, 6)) K E (fun _ e1 => M_X2_takeFromNewRoll K.2.2.2.2.2.2.1 _ _ _ _ e1) h dX2_takeDrop_80 ce_X2_takeFromNewRoll cv_X2_takeFromNewRoll lk_RX2_56 rfl rfl rfl rfl (by decide) rfl rfl (Nat.le_of_ble_eq_true rfl) rfl rfl (by decide) (by decide) (fun x21 h21 h => ?_)
  exact r_ireturn (pc := 83) K hr dX2_takeDrop_83 h (by decide) (by decide)
set_option maxRecDepth 100000 in
set_option maxHeartbeats 4000000 in
theorem B_X2_takeDrop_b2 (K : Cx strL D cA h0 p l s m args meth c cX2_takeDrop RX2 4) (hr : meth.sig.returnType = (some .int)) (E : ∀ x ∈ c.exceptionTable.toList, False) {res : (Int32 ⊕ String) × hpT} : ∀ (n : Nat) (a0 : Nat) (x1 : Int32) (x2 : Int32) (hp : hpT), F_X2_takeDrop_b2  n a0 x1 x2 hp = some res → G D cA h0 p l e rm_X2_takeDrop s m args below meth c 4 (vx_MQ below (QI D cA h0 res) (XE D cA h0 res) args s 0 0 (Af h0)) 0 0 hp 2 [some (va_rf (some a0)), some (.int x1), some (.int x2), none] [] := by
  intro n
  induction n with
  | zero => intro a0 x1 x2 hp h; cases h
  | succ n ih =>
    intro a0 x1 x2 hp h
    rw [F_X2_takeDrop_b2] at h
    refine r_iload_n (pc := 2) K dX2_takeDrop_2 rfl ?_
    refine r_aload_n (pc := 3) K dX2_takeDrop_3 rfl ?_
    refine r_getI (pc := 4) K dX2_takeDrop_4 fk_RX2_15 h (fun x22 h => ?_)
    refine r_icmp_ge (pc := 7) (tgt := 78) K dX2_takeDrop_7 (by decide) h (fun h _ => ?_) (fun h _ => ?_)
    · exact r_weak (lv2 := [some (va_rf (some a0)), some (.int x1), none, none]) ⟨rfl, rfl, trivial⟩ ((B_X2_takeDrop_b78 K hr E  _ _ _ h))
    · refine r_iload_n (pc := 10) K dX2_takeDrop_10 rfl ?_
      refine r_aload_n (pc := 11) K dX2_takeDrop_11 rfl ?_
      refine r_getR (pc := 12) K dX2_takeDrop_12 fk_RX2_9 h (fun r23 h => ?_)
      refine nn_k h (fun a24 hz hq24 => ?_)
      subst hz
      have h := hq24
      refine r_alen (pc := 15) K dX2_takeDrop_15 h (fun x25 h => ?_)
      refine r_icmp_ge (pc := 16) (tgt := 78) K dX2_takeDrop_16 (by decide) h (fun h _ => ?_) (fun h _ => ?_)
      · exact r_weak (lv2 := [some (va_rf (some a0)), some (.int x1), none, none]) ⟨rfl, rfl, trivial⟩ ((B_X2_takeDrop_b78 K hr E  _ _ _ h))
      · refine r_aload_n (pc := 19) K dX2_takeDrop_19 rfl ?_
        refine r_getR (pc := 20) K dX2_takeDrop_20 fk_RX2_9 h (fun r26 h => ?_)
        refine r_iload_n (pc := 23) K dX2_takeDrop_23 rfl ?_
        refine nn_k h (fun a27 hz hq27 => ?_)
        subst hz
        have h := hq27
        refine r_iald (pc := 24) K dX2_takeDrop_24 h (fun x28 h => ?_)
        refine r_aload_n (pc := 25) K dX2_takeDrop_25 rfl ?_
        refine r_getI (pc := 26) K dX2_takeDrop_26 fk_RX2_49 h (fun x29 h => ?_)
        refine r_aload_n (pc := 29) K dX2_takeDrop_29 rfl ?_
        refine r_getR (pc := 30) K dX2_takeDrop_30 fk_RX2_9 h (fun r30 h => ?_)
        refine r_iload_n (pc := 33) K dX2_takeDrop_33 rfl ?_
        refine nn_k h (fun a31 hz hq31 => ?_)
        subst hz
        have h := hq31
        refine r_iald (pc := 34) K dX2_takeDrop_34 h (fun x32 h => ?_)
        refine r_isub (pc := 35) K dX2_takeDrop_35 ?_
        refine r_aload_n (pc := 36) K dX2_takeDrop_36 rfl ?_
        refine r_getI (pc := 37) K dX2_takeDrop_37 fk_RX2_46 h (fun x33 h => ?_)
        refine s_int (pc := 40) (st := [.int x28]) (As := [.int (x29 - x32), .int x33]) K E (fun _ e1 => M_X7_wrapped K.2.2.2.2.2.2.1 _ _ _ _ e1) h dX2_takeDrop_40 ce_X7_wrapped cs_X7_wrapped lk_RX2_52 rfl rfl (by decide) rfl rfl (Nat.le_of_ble_eq_true rfl) rfl rfl (by decide) (by decide) (fun x34 h34 h => ?_)
        refine r_iadd (pc := 43) K dX2_takeDrop_43 ?_
        refine r_istore_n (pc := 44) (lv' := [some (va_rf (some a0)), some (.int x1), some (.int x2), some (.int (x28 + x34))]) K dX2_takeDrop_44 (by decide) rfl ?_
        refine r_iload_n (pc := 45) K dX2_takeDrop_45 rfl ?_
        refine r_iload_n (pc := 46) K dX2_takeDrop_46 rfl ?_
        refine r_iadd (pc := 47) K dX2_takeDrop_47 ?_
        refine r_aload_n (pc := 48) K dX2_takeDrop_48 rfl ?_
        refine r_getI (pc := 49) K dX2_takeDrop_49 fk_RX2_30 h (fun x35 h => ?_)
        refine r_icmp_gt (pc := 52) (tgt := 72) K dX2_takeDrop_52 (by decide) h (fun h _ => ?_) (fun h _ => ?_)
        · refine r_iinc (pc := 72) (v := (x2 + 1)) (lv' := [some (va_rf (some a0)), some (.int x1), some (.int (x2 + 1)), some (.int (x28 + x34))]) K dX2_takeDrop_72 rfl rfl (by decide) rfl ?_
          refine r_goto (pc := 75) (tgt := 2) K dX2_takeDrop_75 (by decide) ?_
          exact r_weak (lv2 := [some (va_rf (some a0)), some (.int x1), some (.int (x2 + 1)), none]) ⟨rfl, rfl, rfl, trivial⟩ ((ih _ _ _ _ h))
        · refine r_aload_n (pc := 55) K dX2_takeDrop_55 rfl ?_
          refine r_getR (pc := 56) K dX2_takeDrop_56 fk_RX2_9 h (fun r36 h => ?_)
          refine r_iload_n (pc := 59) K dX2_takeDrop_59 rfl ?_
          refine r_iload_n (pc := 60) K dX2_takeDrop_60 rfl ?_
          refine r_iload_n (pc := 61) K dX2_takeDrop_61 rfl ?_
          refine r_iadd (pc := 62) K dX2_takeDrop_62 ?_
          refine nn_k h (fun a37 hz hq37 => ?_)
          subst hz
          have h := hq37
          refine r_iast (pc := 63) K dX2_takeDrop_63 h (fun h38 h => ?_)
          refine r_sipush (pc := 64) (v := 1000) K dX2_takeDrop_64 (by decide) ?_
          refine r_iload_n (pc := 67) K dX2_takeDrop_67 rfl ?_
          refine r_imul (pc := 68) K dX2_takeDrop_68 ?_
          refine r_iload_n (pc := 69) K dX2_takeDrop_69 rfl ?_
          refine r_iadd (pc := 70) K dX2_takeDrop_70 ?_
          exact r_ireturn (pc := 71) K hr dX2_takeDrop_71 h (by decide) (by decide)
set_option maxRecDepth 100000 in
set_option maxHeartbeats 4000000 in
theorem M_X2_takeDrop {D : va_G} {cA : Nat → ClassId} {h0 : Nat} {l : Launch} (hl : l.stackTraces = false) (a0 : Nat) (x1 : Int32) (hp : hpT) (res : (Int32 ⊕ String) × hpT) (h : F_X2_takeDrop a0 x1 hp = some res) : vx_Met l yX2_takeDrop (wsm yX2_takeDrop cX2_takeDrop 4 (some .int)) rm_X2_takeDrop (va_Pc [va_rf (some a0), .int x1] (Pre strL D cA h0 hp)) (QI D cA h0 res) (XE D cA h0 res) 0 0 (Af h0) := by
  unfold F_X2_takeDrop at h
  refine g_entry (by decide +kernel) hl (cat_c rfl (cat_c rfl (cat_n))) (Nat.le_of_ble_eq_true rfl) (lv := [some (va_rf (some a0)), some (.int x1), none, none]) rfl ?_
  intro p e s m args below meth c K hr E hn
  have K : Cx strL D cA h0 p l s m args meth c cX2_takeDrop RX2 4 := K
  refine r_iconst (pc := 0) (v := 0) K dX2_takeDrop_0 (by decide) ?_
  refine r_istore_n (pc := 1) (lv' := [some (va_rf (some a0)), some (.int x1), some (.int 0), none]) K dX2_takeDrop_1 (by decide) rfl ?_
  exact r_weak (lv2 := [some (va_rf (some a0)), some (.int x1), some (.int 0), none]) ⟨rfl, rfl, rfl, trivial⟩ ((B_X2_takeDrop_b2 K hr E 1000 _ _ _ _ h))
def rm_X6_takeDrops : Room := { frames := 2, cells := 0, slots := 0, locals := 46 }
set_option maxRecDepth 100000 in
set_option maxHeartbeats 4000000 in
theorem B_X6_takeDrops_b6 (K : Cx strL D cA h0 p l s m args meth c cX6_takeDrops RX6 4) (hr : meth.sig.returnType = (some .boolean)) (E : ∀ x ∈ c.exceptionTable.toList, False) {res : (Int32 ⊕ String) × hpT} : ∀ (n : Nat) (a0 : Nat) (a1 : Nat) (x3 : Int32) (hp : hpT), F_X6_takeDrops_b6  n a0 a1 x3 hp = some res → G D cA h0 p l e rm_X6_takeDrops s m args below meth c 4 (vx_MQ below (QI D cA h0 res) (XE D cA h0 res) args s 0 0 (Af h0)) 0 0 hp 6 [some (va_rf (some a0)), some (va_rf (some a1)), none, some (.int x3)] [] := by
  intro n
  induction n with
  | zero => intro a0 a1 x3 hp h; cases h
  | succ n ih =>
    intro a0 a1 x3 hp h
    rw [F_X6_takeDrops_b6] at h
    refine r_iload_n (pc := 6) K dX6_takeDrops_6 rfl ?_
    refine r_aload_n (pc := 7) K dX6_takeDrops_7 rfl ?_
    refine r_getI (pc := 8) K dX6_takeDrops_8 fk_RX6_15 h (fun x21 h => ?_)
    refine r_icmp_ge (pc := 11) (tgt := 55) K dX6_takeDrops_11 (by decide) h (fun h _ => ?_) (fun h _ => ?_)
    · refine r_iconst (pc := 55) (v := 1) K dX6_takeDrops_55 (by decide) ?_
      exact r_zreturn (pc := 56) K hr dX6_takeDrops_56 h (by decide) (by decide)
    · refine r_iload_n (pc := 14) K dX6_takeDrops_14 rfl ?_
      refine r_aload_n (pc := 15) K dX6_takeDrops_15 rfl ?_
      refine r_getR (pc := 16) K dX6_takeDrops_16 fk_RX6_9 h (fun r22 h => ?_)
      refine nn_k h (fun a23 hz hq23 => ?_)
      subst hz
      have h := hq23
      refine r_alen (pc := 19) K dX6_takeDrops_19 h (fun x24 h => ?_)
      refine r_icmp_ge (pc := 20) (tgt := 55) K dX6_takeDrops_20 (by decide) h (fun h _ => ?_) (fun h _ => ?_)
      · refine r_iconst (pc := 55) (v := 1) K dX6_takeDrops_55 (by decide) ?_
        exact r_zreturn (pc := 56) K hr dX6_takeDrops_56 h (by decide) (by decide)
      · refine r_aload_n (pc := 23) K dX6_takeDrops_23 rfl ?_
        refine r_getR (pc := 24) K dX6_takeDrops_24 fk_RX6_9 h (fun r25 h => ?_)
        refine r_iload_n (pc := 27) K dX6_takeDrops_27 rfl ?_
        refine r_aload_n (pc := 28) K dX6_takeDrops_28 rfl ?_
        refine r_aload_n (pc := 29) K dX6_takeDrops_29 rfl ?_
        refine r_getI (pc := 30) K dX6_takeDrops_30 fk_RX6_19 h (fun x26 h => ?_)
        refine v_int (pc := 33) (st := [.int x3, va_rf r25]) (As := [.int x26]) (b := a1) (ci := 2) (q0 := (RX2, TX2, 6)) K E (fun _ e1 => M_X2_takeDrop K.2.2.2.2.2.2.1 _ _ _ _ e1) h dX6_takeDrops_33 ce_X2_takeDrop cv_X2_takeDrop lk_RX6_28 rfl rfl rfl rfl (by decide) rfl rfl (mcat_le (cat_c rfl (cat_c (va_rf_cat _) (cat_n))) (Nat.le_of_ble_eq_true rfl)) rfl rfl (by decide) (by decide) (fun x27 h27 h => ?_)
        refine nn_k h (fun a28 hz hq28 => ?_)
        subst hz
        have h := hq28
        refine r_iast (pc := 36) K dX6_takeDrops_36 h (fun h29 h => ?_)
        refine r_aload_n (pc := 37) K dX6_takeDrops_37 rfl ?_
        refine r_getR (pc := 38) K dX6_takeDrops_38 fk_RX6_9 h (fun r30 h => ?_)
        refine r_iload_n (pc := 41) K dX6_takeDrops_41 rfl ?_
        refine nn_k h (fun a31 hz hq31 => ?_)
        subst hz
        have h := hq31
        refine r_iald (pc := 42) K dX6_takeDrops_42 h (fun x32 h => ?_)
        refine r_iconst (pc := 43) (v := (-1)) K dX6_takeDrops_43 (by decide) ?_
        refine r_icmp_ne (pc := 44) (tgt := 49) K dX6_takeDrops_44 (by decide) h (fun h _ => ?_) (fun h _ => ?_)
        · refine r_iinc (pc := 49) (v := (x3 + 1)) (lv' := [some (va_rf (some a0)), some (va_rf (some a1)), none, some (.int (x3 + 1))]) K dX6_takeDrops_49 rfl rfl (by decide) rfl ?_
          refine r_goto (pc := 52) (tgt := 6) K dX6_takeDrops_52 (by decide) ?_
          exact r_weak (lv2 := [some (va_rf (some a0)), some (va_rf (some a1)), none, some (.int (x3 + 1))]) ⟨rfl, rfl, rfl, trivial⟩ ((ih _ _ _ _ h))
        · refine r_iconst (pc := 47) (v := 0) K dX6_takeDrops_47 (by decide) ?_
          exact r_zreturn (pc := 48) K hr dX6_takeDrops_48 h (by decide) (by decide)
set_option maxRecDepth 100000 in
set_option maxHeartbeats 4000000 in
theorem M_X6_takeDrops {D : va_G} {cA : Nat → ClassId} {h0 : Nat} {l : Launch} (hl : l.stackTraces = false) (a0 : Nat) (a1 : Nat) (x2 : Int32) (hp : hpT) (res : (Int32 ⊕ String) × hpT) (h : F_X6_takeDrops a0 a1 x2 hp = some res) : vx_Met l yX6_takeDrops (wsm yX6_takeDrops cX6_takeDrops 4 (some .boolean)) rm_X6_takeDrops (va_Pc [va_rf (some a0), va_rf (some a1), .int x2] (Pre strL D cA h0 hp)) (QI D cA h0 res) (XE D cA h0 res) 0 0 (Af h0) := by
  unfold F_X6_takeDrops at h
  refine g_entry (by decide +kernel) hl (cat_c rfl (cat_c rfl (cat_c rfl (cat_n)))) (Nat.le_of_ble_eq_true rfl) (lv := [some (va_rf (some a0)), some (va_rf (some a1)), some (.int x2), none]) rfl ?_
  intro p e s m args below meth c K hr E hn
  have K : Cx strL D cA h0 p l s m args meth c cX6_takeDrops RX6 4 := K
  refine r_iload_n (pc := 0) K dX6_takeDrops_0 rfl ?_
  refine r_iconst (pc := 1) (v := 0) K dX6_takeDrops_1 (by decide) ?_
  refine s_int (pc := 2) (st := []) (As := [.int x2, .int 0]) K E (fun _ e1 => M_J9_max_7cf53 K.2.2.2.2.2.2.1 _ _ _ _ e1) h dX6_takeDrops_2 ce_J9_max_7cf53 cs_J9_max_7cf53 lk_RX6_22 rfl rfl (by decide) rfl rfl (Nat.le_of_ble_eq_true rfl) rfl rfl (by decide) (by decide) (fun x33 h33 h => ?_)
  refine r_istore_n (pc := 5) (lv' := [some (va_rf (some a0)), some (va_rf (some a1)), some (.int x2), some (.int x33)]) K dX6_takeDrops_5 (by decide) rfl ?_
  exact r_weak (lv2 := [some (va_rf (some a0)), some (va_rf (some a1)), none, some (.int x33)]) ⟨rfl, rfl, rfl, trivial⟩ ((B_X6_takeDrops_b6 K hr E 1000 _ _ _ _ h))
def rm_X5_cutAll : Room := { frames := 3, cells := 0, slots := 0, locals := 69 }
set_option maxRecDepth 100000 in
set_option maxHeartbeats 4000000 in
theorem B_X5_cutAll_b54 (K : Cx strL D cA h0 p l s m args meth c cX5_cutAll RX5 7) (hr : meth.sig.returnType = (some .boolean)) (E : ∀ x ∈ c.exceptionTable.toList, False) {res : (Int32 ⊕ String) × hpT} {K21 : Nat → Option Nat → Int32 → Int32 → hpT → Rs Int32} (hK21 : ∀ (a0 : Nat) (r3 : Option Nat) (x4 : Int32) (x5 : Int32) (hp : hpT), K21 a0 r3 x4 x5 hp = some res → G D cA h0 p l e rm_X5_cutAll s m args below meth c 7 (vx_MQ below (QI D cA h0 res) (XE D cA h0 res) args s 0 0 (Af h0)) 0 0 hp 21 [some (va_rf (some a0)), none, none, some (va_rf r3), some (.int x4), some (.int x5), none] []) : ∀ (a0 : Nat) (r3 : Option Nat) (x4 : Int32) (x5 : Int32) (hp : hpT), F_X5_cutAll_b54 K21 a0 r3 x4 x5 hp = some res → G D cA h0 p l e rm_X5_cutAll s m args below meth c 7 (vx_MQ below (QI D cA h0 res) (XE D cA h0 res) args s 0 0 (Af h0)) 0 0 hp 54 [some (va_rf (some a0)), none, none, some (va_rf r3), some (.int x4), some (.int x5), none] [] := by
  intro a0 r3 x4 x5 hp h
  unfold F_X5_cutAll_b54 at h
  refine r_iinc (pc := 54) (v := (x5 + 1)) (lv' := [some (va_rf (some a0)), none, none, some (va_rf r3), some (.int x4), some (.int (x5 + 1)), none]) K dX5_cutAll_54 rfl rfl (by decide) rfl ?_
  refine r_goto (pc := 57) (tgt := 21) K dX5_cutAll_57 (by decide) ?_
  exact r_weak (lv2 := [some (va_rf (some a0)), none, none, some (va_rf r3), some (.int x4), some (.int (x5 + 1)), none]) ⟨rfl, rfl, rfl, rfl, trivial⟩ ((hK21 _ _ _ _ _ h))
set_option maxRecDepth 100000 in
set_option maxHeartbeats 4000000 in
theorem B_X5_cutAll_b21 (K : Cx strL D cA h0 p l s m args meth c cX5_cutAll RX5 7) (hr : meth.sig.returnType = (some .boolean)) (E : ∀ x ∈ c.exceptionTable.toList, False) {res : (Int32 ⊕ String) × hpT} : ∀ (n : Nat) (a0 : Nat) (r3 : Option Nat) (x4 : Int32) (x5 : Int32) (hp : hpT), F_X5_cutAll_b21  n a0 r3 x4 x5 hp = some res → G D cA h0 p l e rm_X5_cutAll s m args below meth c 7 (vx_MQ below (QI D cA h0 res) (XE D cA h0 res) args s 0 0 (Af h0)) 0 0 hp 21 [some (va_rf (some a0)), none, none, some (va_rf r3), some (.int x4), some (.int x5), none] [] := by
  intro n
  induction n with
  | zero => intro a0 r3 x4 x5 hp h; cases h
  | succ n ih =>
    intro a0 r3 x4 x5 hp h
    rw [F_X5_cutAll_b21] at h
    refine r_iload (pc := 21) K dX5_cutAll_21 rfl ?_
    refine r_iload (pc := 23) K dX5_cutAll_23 rfl ?_
    refine r_icmp_ge (pc := 25) (tgt := 60) K dX5_cutAll_25 (by decide) h (fun h _ => ?_) (fun h _ => ?_)
    · refine r_iconst (pc := 60) (v := 1) K dX5_cutAll_60 (by decide) ?_
      exact r_zreturn (pc := 61) K hr dX5_cutAll_61 h (by decide) (by decide)
    · refine r_aload_n (pc := 28) K dX5_cutAll_28 rfl ?_
      refine r_iload (pc := 29) K dX5_cutAll_29 rfl ?_
      refine nn_k h (fun a21 hz hq21 => ?_)
      subst hz
      have h := hq21
      refine r_aald (pc := 31) K dX5_cutAll_31 (k0 := 6) rfl h (fun r22 h => ?_)
      refine r_astore (pc := 32) (lv' := [some (va_rf (some a0)), none, none, some (va_rf (some a21)), some (.int x4), some (.int x5), some (va_rf r22)]) K dX5_cutAll_32 (by decide) rfl ?_
      refine r_aload (pc := 34) K dX5_cutAll_34 rfl ?_
      refine r_ifnull (pc := 36) (tgt := 54) K dX5_cutAll_36 (by decide) h (fun hz hq23 => ?_) (fun a23 hz hq23 => ?_)
      · subst hz
        have h := hq23
        exact r_weak (lv2 := [some (va_rf (some a0)), none, none, some (va_rf (some a21)), some (.int x4), some (.int x5), none]) ⟨rfl, rfl, rfl, rfl, trivial⟩ ((B_X5_cutAll_b54 K hr E ih  _ _ _ _ _ h))
      · subst hz
        have h := hq23
        refine r_aload (pc := 39) K dX5_cutAll_39 rfl ?_
        refine r_aload_n (pc := 41) K dX5_cutAll_41 rfl ?_
        refine r_getR (pc := 42) K dX5_cutAll_42 fk_RX5_20 h (fun r24 h => ?_)
        refine r_iconst (pc := 45) (v := 0) K dX5_cutAll_45 (by decide) ?_
        refine nn_k h (fun a25 hz hq25 => ?_)
        subst hz
        have h := hq25
        refine v_int (pc := 46) (st := []) (As := [va_rf (some a25), .int 0]) (b := a23) (ci := 6) (q0 := (RX6, TX6, 3)) K E (fun _ e1 => M_X6_takeDrops K.2.2.2.2.2.2.1 _ _ _ _ _ e1) h dX5_cutAll_46 ce_X6_takeDrops cv_X6_takeDrops lk_RX5_63 rfl rfl rfl rfl (by decide) rfl rfl (Nat.le_of_ble_eq_true rfl) rfl rfl (by decide) (by decide) (fun x26 h26 h => ?_)
        refine r_if_ne (pc := 49) (tgt := 54) K dX5_cutAll_49 (by decide) h (fun h _ => ?_) (fun h _ => ?_)
        · exact r_weak (lv2 := [some (va_rf (some a0)), none, none, some (va_rf (some a21)), some (.int x4), some (.int x5), none]) ⟨rfl, rfl, rfl, rfl, trivial⟩ ((B_X5_cutAll_b54 K hr E ih  _ _ _ _ _ h))
        · refine r_iconst (pc := 52) (v := 0) K dX5_cutAll_52 (by decide) ?_
          exact r_zreturn (pc := 53) K hr dX5_cutAll_53 h (by decide) (by decide)
set_option maxRecDepth 100000 in
set_option maxHeartbeats 4000000 in
theorem M_X5_cutAll {D : va_G} {cA : Nat → ClassId} {h0 : Nat} {l : Launch} (hl : l.stackTraces = false) (a0 : Nat) (a1 : Nat) (x2 : Int32) (hp : hpT) (res : (Int32 ⊕ String) × hpT) (h : F_X5_cutAll a0 a1 x2 hp = some res) : vx_Met l yX5_cutAll (wsm yX5_cutAll cX5_cutAll 7 (some .boolean)) rm_X5_cutAll (va_Pc [va_rf (some a0), va_rf (some a1), .int x2] (Pre strL D cA h0 hp)) (QI D cA h0 res) (XE D cA h0 res) 0 0 (Af h0) := by
  unfold F_X5_cutAll at h
  refine g_entry (by decide +kernel) hl (cat_c rfl (cat_c rfl (cat_c rfl (cat_n)))) (Nat.le_of_ble_eq_true rfl) (lv := [some (va_rf (some a0)), some (va_rf (some a1)), some (.int x2), none, none, none, none]) rfl ?_
  intro p e s m args below meth c K hr E hn
  have K : Cx strL D cA h0 p l s m args meth c cX5_cutAll RX5 7 := K
  refine r_aload_n (pc := 0) K dX5_cutAll_0 rfl ?_
  refine r_getR (pc := 1) K dX5_cutAll_1 fk_RX5_20 h (fun r27 h => ?_)
  refine r_aload_n (pc := 4) K dX5_cutAll_4 rfl ?_
  refine r_iload_n (pc := 5) K dX5_cutAll_5 rfl ?_
  refine nn_k h (fun a28 hz hq28 => ?_)
  subst hz
  have h := hq28
  refine v_void (pc := 6) (st := []) (As := [va_rf (some a1), .int x2]) (b := a28) (ci := 2) (q0 := (RX2, TX2, 6)) K E (fun _ e1 => M_X2_beginAnew K.2.2.2.2.2.2.1 _ _ _ _ _ e1) h dX5_cutAll_6 ce_X2_beginAnew cv_X2_beginAnew lk_RX5_59 rfl rfl rfl rfl (by decide) rfl rfl (Nat.le_of_ble_eq_true rfl) rfl rfl (by decide) (by decide) (fun _ h29 h => ?_)
  refine r_aload_n (pc := 9) K dX5_cutAll_9 rfl ?_
  refine r_getR (pc := 10) K dX5_cutAll_10 fk_RX5_11 h (fun r30 h => ?_)
  refine r_astore_n (pc := 13) (lv' := [some (va_rf (some a0)), some (va_rf (some a1)), some (.int x2), some (va_rf r30), none, none, none]) K dX5_cutAll_13 (by decide) rfl ?_
  refine r_aload_n (pc := 14) K dX5_cutAll_14 rfl ?_
  refine nn_k h (fun a31 hz hq31 => ?_)
  subst hz
  have h := hq31
  refine r_alen (pc := 15) K dX5_cutAll_15 h (fun x32 h => ?_)
  refine r_istore (pc := 16) (lv' := [some (va_rf (some a0)), some (va_rf (some a1)), some (.int x2), some (va_rf (some a31)), some (.int x32), none, none]) K dX5_cutAll_16 (by decide) rfl ?_
  refine r_iconst (pc := 18) (v := 0) K dX5_cutAll_18 (by decide) ?_
  refine r_istore (pc := 19) (lv' := [some (va_rf (some a0)), some (va_rf (some a1)), some (.int x2), some (va_rf (some a31)), some (.int x32), some (.int 0), none]) K dX5_cutAll_19 (by decide) rfl ?_
  exact r_weak (lv2 := [some (va_rf (some a0)), none, none, some (va_rf (some a31)), some (.int x32), some (.int 0), none]) ⟨rfl, rfl, rfl, rfl, trivial⟩ ((B_X5_cutAll_b21 K hr E 1000 _ _ _ _ _ h))
def rm_X5_bestPhase : Room := { frames := 4, cells := 0, slots := 0, locals := 95 }
set_option maxRecDepth 100000 in
set_option maxHeartbeats 4000000 in
theorem B_X5_bestPhase_b55 (K : Cx strL D cA h0 p l s m args meth c cX5_bestPhase RX5 5) (hr : meth.sig.returnType = (some .int)) (E : ∀ x ∈ c.exceptionTable.toList, False) {res : (Int32 ⊕ String) × hpT} {K8 : Nat → Nat → Int32 → Int32 → Int32 → hpT → Rs Int32} (hK8 : ∀ (a0 : Nat) (a1 : Nat) (x2 : Int32) (x3 : Int32) (x4 : Int32) (hp : hpT), K8 a0 a1 x2 x3 x4 hp = some res → G D cA h0 p l e rm_X5_bestPhase s m args below meth c 5 (vx_MQ below (QI D cA h0 res) (XE D cA h0 res) args s 0 0 (Af h0)) 0 0 hp 8 [some (va_rf (some a0)), some (va_rf (some a1)), some (.int x2), some (.int x3), some (.int x4)] []) : ∀ (a0 : Nat) (a1 : Nat) (x2 : Int32) (x3 : Int32) (x4 : Int32) (hp : hpT), F_X5_bestPhase_b55 K8 a0 a1 x2 x3 x4 hp = some res → G D cA h0 p l e rm_X5_bestPhase s m args below meth c 5 (vx_MQ below (QI D cA h0 res) (XE D cA h0 res) args s 0 0 (Af h0)) 0 0 hp 55 [some (va_rf (some a0)), some (va_rf (some a1)), some (.int x2), some (.int x3), some (.int x4)] [] := by
  intro a0 a1 x2 x3 x4 hp h
  unfold F_X5_bestPhase_b55 at h
  refine r_iinc (pc := 55) (v := (x4 + 1)) (lv' := [some (va_rf (some a0)), some (va_rf (some a1)), some (.int x2), some (.int x3), some (.int (x4 + 1))]) K dX5_bestPhase_55 rfl rfl (by decide) rfl ?_
  refine r_goto (pc := 58) (tgt := 8) K dX5_bestPhase_58 (by decide) ?_
  exact r_weak (lv2 := [some (va_rf (some a0)), some (va_rf (some a1)), some (.int x2), some (.int x3), some (.int (x4 + 1))]) ⟨rfl, rfl, rfl, rfl, rfl, trivial⟩ ((hK8 _ _ _ _ _ _ h))
set_option maxRecDepth 100000 in
set_option maxHeartbeats 4000000 in
theorem B_X5_bestPhase_b8 (K : Cx strL D cA h0 p l s m args meth c cX5_bestPhase RX5 5) (hr : meth.sig.returnType = (some .int)) (E : ∀ x ∈ c.exceptionTable.toList, False) {res : (Int32 ⊕ String) × hpT} : ∀ (n : Nat) (a0 : Nat) (a1 : Nat) (x2 : Int32) (x3 : Int32) (x4 : Int32) (hp : hpT), F_X5_bestPhase_b8  n a0 a1 x2 x3 x4 hp = some res → G D cA h0 p l e rm_X5_bestPhase s m args below meth c 5 (vx_MQ below (QI D cA h0 res) (XE D cA h0 res) args s 0 0 (Af h0)) 0 0 hp 8 [some (va_rf (some a0)), some (va_rf (some a1)), some (.int x2), some (.int x3), some (.int x4)] [] := by
  intro n
  induction n with
  | zero => intro a0 a1 x2 x3 x4 hp h; cases h
  | succ n ih =>
    intro a0 a1 x2 x3 x4 hp h
    rw [F_X5_bestPhase_b8] at h
    refine r_iload (pc := 8) K dX5_bestPhase_8 rfl ?_
    refine r_aload_n (pc := 10) K dX5_bestPhase_10 rfl ?_
    refine r_getR (pc := 11) K dX5_bestPhase_11 fk_RX5_35 h (fun r21 h => ?_)
    refine nn_k h (fun a22 hz hq22 => ?_)
    subst hz
    have h := hq22
    refine r_getR (pc := 14) K dX5_bestPhase_14 fk_RX5_41 h (fun r23 h => ?_)
    refine nn_k h (fun a24 hz hq24 => ?_)
    subst hz
    have h := hq24
    refine r_getI (pc := 17) K dX5_bestPhase_17 fk_RX5_47 h (fun x25 h => ?_)
    refine r_icmp_ge (pc := 20) (tgt := 61) K dX5_bestPhase_20 (by decide) h (fun h _ => ?_) (fun h _ => ?_)
    · refine r_iload_n (pc := 61) K dX5_bestPhase_61 rfl ?_
      exact r_ireturn (pc := 62) K hr dX5_bestPhase_62 h (by decide) (by decide)
    · refine r_aload_n (pc := 23) K dX5_bestPhase_23 rfl ?_
      refine r_aload_n (pc := 24) K dX5_bestPhase_24 rfl ?_
      refine r_iload (pc := 25) K dX5_bestPhase_25 rfl ?_
      refine v_int (pc := 27) (st := []) (As := [va_rf (some a1), .int x4]) (b := a0) (ci := 5) (q0 := (RX5, TX5, 5)) K E (fun _ e1 => M_X5_cutAll K.2.2.2.2.2.2.1 _ _ _ _ _ e1) h dX5_bestPhase_27 ce_X5_cutAll cv_X5_cutAll lk_RX5_52 rfl rfl rfl rfl (by decide) rfl rfl (Nat.le_of_ble_eq_true rfl) rfl rfl (by decide) (by decide) (fun x26 h26 h => ?_)
      refine r_if_eq (pc := 30) (tgt := 55) K dX5_bestPhase_30 (by decide) h (fun h _ => ?_) (fun h _ => ?_)
      · exact r_weak (lv2 := [some (va_rf (some a0)), some (va_rf (some a1)), some (.int x2), some (.int x3), some (.int x4)]) ⟨rfl, rfl, rfl, rfl, rfl, trivial⟩ ((B_X5_bestPhase_b55 K hr E ih  _ _ _ _ _ _ h))
      · refine r_aload_n (pc := 33) K dX5_bestPhase_33 rfl ?_
        refine r_getR (pc := 34) K dX5_bestPhase_34 fk_RX5_20 h (fun r27 h => ?_)
        refine nn_k h (fun a28 hz hq28 => ?_)
        subst hz
        have h := hq28
        refine r_getI (pc := 37) K dX5_bestPhase_37 fk_RX5_56 h (fun x29 h => ?_)
        refine r_iload_n (pc := 40) K dX5_bestPhase_40 rfl ?_
        refine r_icmp_ge (pc := 41) (tgt := 55) K dX5_bestPhase_41 (by decide) h (fun h _ => ?_) (fun h _ => ?_)
        · exact r_weak (lv2 := [some (va_rf (some a0)), some (va_rf (some a1)), some (.int x2), some (.int x3), some (.int x4)]) ⟨rfl, rfl, rfl, rfl, rfl, trivial⟩ ((B_X5_bestPhase_b55 K hr E ih  _ _ _ _ _ _ h))
        · refine r_iload (pc := 44) K dX5_bestPhase_44 rfl ?_
          refine r_istore_n (pc := 46) (lv' := [some (va_rf (some a0)), some (va_rf (some a1)), some (.int x4), some (.int x3), some (.int x4)]) K dX5_bestPhase_46 (by decide) rfl ?_
          refine r_aload_n (pc := 47) K dX5_bestPhase_47 rfl ?_
          refine r_getR (pc := 48) K dX5_bestPhase_48 fk_RX5_20 h (fun r30 h => ?_)
          refine nn_k h (fun a31 hz hq31 => ?_)
          subst hz
          have h := hq31
          refine r_getI (pc := 51) K dX5_bestPhase_51 fk_RX5_56 h (fun x32 h => ?_)
          refine r_istore_n (pc := 54) (lv' := [some (va_rf (some a0)), some (va_rf (some a1)), some (.int x4), some (.int x32), some (.int x4)]) K dX5_bestPhase_54 (by decide) rfl ?_
          exact r_weak (lv2 := [some (va_rf (some a0)), some (va_rf (some a1)), some (.int x4), some (.int x32), some (.int x4)]) ⟨rfl, rfl, rfl, rfl, rfl, trivial⟩ ((B_X5_bestPhase_b55 K hr E ih  _ _ _ _ _ _ h))
set_option maxRecDepth 100000 in
set_option maxHeartbeats 4000000 in
theorem M_X5_bestPhase {D : va_G} {cA : Nat → ClassId} {h0 : Nat} {l : Launch} (hl : l.stackTraces = false) (a0 : Nat) (a1 : Nat) (hp : hpT) (res : (Int32 ⊕ String) × hpT) (h : F_X5_bestPhase a0 a1 hp = some res) : vx_Met l yX5_bestPhase (wsm yX5_bestPhase cX5_bestPhase 5 (some .int)) rm_X5_bestPhase (va_Pc [va_rf (some a0), va_rf (some a1)] (Pre strL D cA h0 hp)) (QI D cA h0 res) (XE D cA h0 res) 0 0 (Af h0) := by
  unfold F_X5_bestPhase at h
  refine g_entry (by decide +kernel) hl (cat_c rfl (cat_c rfl (cat_n))) (Nat.le_of_ble_eq_true rfl) (lv := [some (va_rf (some a0)), some (va_rf (some a1)), none, none, none]) rfl ?_
  intro p e s m args below meth c K hr E hn
  have K : Cx strL D cA h0 p l s m args meth c cX5_bestPhase RX5 5 := K
  refine r_iconst (pc := 0) (v := (-1)) K dX5_bestPhase_0 (by decide) ?_
  refine r_istore_n (pc := 1) (lv' := [some (va_rf (some a0)), some (va_rf (some a1)), some (.int (-1)), none, none]) K dX5_bestPhase_1 (by decide) rfl ?_
  refine r_bipush (pc := 2) (v := 21) K dX5_bestPhase_2 (by decide) ?_
  refine r_istore_n (pc := 4) (lv' := [some (va_rf (some a0)), some (va_rf (some a1)), some (.int (-1)), some (.int 21), none]) K dX5_bestPhase_4 (by decide) rfl ?_
  refine r_iconst (pc := 5) (v := 0) K dX5_bestPhase_5 (by decide) ?_
  refine r_istore (pc := 6) (lv' := [some (va_rf (some a0)), some (va_rf (some a1)), some (.int (-1)), some (.int 21), some (.int 0)]) K dX5_bestPhase_6 (by decide) rfl ?_
  exact r_weak (lv2 := [some (va_rf (some a0)), some (va_rf (some a1)), some (.int (-1)), some (.int 21), some (.int 0)]) ⟨rfl, rfl, rfl, rfl, rfl, trivial⟩ ((B_X5_bestPhase_b8 K hr E 1000 _ _ _ _ _ _ h))
def rm_X5_hangFrom : Room := { frames := 4, cells := 0, slots := 0, locals := 95 }
set_option maxRecDepth 100000 in
set_option maxHeartbeats 4000000 in
theorem M_X5_hangFrom {D : va_G} {cA : Nat → ClassId} {h0 : Nat} {l : Launch} (hl : l.stackTraces = false) (a0 : Nat) (a1 : Nat) (x2 : Int32) (x3 : Int32) (hp : hpT) (res : (Int32 ⊕ String) × hpT) (h : F_X5_hangFrom a0 a1 x2 x3 hp = some res) : vx_Met l yX5_hangFrom (wsm yX5_hangFrom cX5_hangFrom 4 (some .int)) rm_X5_hangFrom (va_Pc [va_rf (some a0), va_rf (some a1), .int x2, .int x3] (Pre strL D cA h0 hp)) (QI D cA h0 res) (XE D cA h0 res) 0 0 (Af h0) := by
  unfold F_X5_hangFrom at h
  refine g_entry (by decide +kernel) hl (cat_c rfl (cat_c rfl (cat_c rfl (cat_c rfl (cat_n))))) (Nat.le_of_ble_eq_true rfl) (lv := [some (va_rf (some a0)), some (va_rf (some a1)), some (.int x2), some (.int x3)]) rfl ?_
  intro p e s m args below meth c K hr E hn
  have K : Cx strL D cA h0 p l s m args meth c cX5_hangFrom RX5 4 := K
  refine r_aload_n (pc := 0) K dX5_hangFrom_0 rfl ?_
  refine r_aload_n (pc := 1) K dX5_hangFrom_1 rfl ?_
  refine r_iload_n (pc := 2) K dX5_hangFrom_2 rfl ?_
  refine v_int (pc := 3) (st := []) (As := [va_rf (some a1), .int x3]) (b := a0) (ci := 5) (q0 := (RX5, TX5, 5)) K E (fun _ e1 => M_X5_cutAll K.2.2.2.2.2.2.1 _ _ _ _ _ e1) h dX5_hangFrom_3 ce_X5_cutAll cv_X5_cutAll lk_RX5_52 rfl rfl rfl rfl (by decide) rfl rfl (Nat.le_of_ble_eq_true rfl) rfl rfl (by decide) (by decide) (fun x21 h21 h => ?_)
  refine r_pop (pc := 6) K dX5_hangFrom_6 rfl ?_
  refine r_aload_n (pc := 7) K dX5_hangFrom_7 rfl ?_
  refine r_dup (pc := 8) K dX5_hangFrom_8 rfl ?_
  refine r_getI (pc := 9) K dX5_hangFrom_9 fk_RX5_67 h (fun x22 h => ?_)
  refine r_aload_n (pc := 12) K dX5_hangFrom_12 rfl ?_
  refine r_getR (pc := 13) K dX5_hangFrom_13 fk_RX5_20 h (fun r23 h => ?_)
  refine nn_k h (fun a24 hz hq24 => ?_)
  subst hz
  have h := hq24
  refine r_getI (pc := 16) K dX5_hangFrom_16 fk_RX5_56 h (fun x25 h => ?_)
  refine r_isub (pc := 19) K dX5_hangFrom_19 ?_
  refine r_put (pc := 20) K dX5_hangFrom_20 fk_RX5_67 fn_1_4 rfl rfl h (fun h26 h => ?_)
  refine r_aload_n (pc := 23) K dX5_hangFrom_23 rfl ?_
  refine r_aload_n (pc := 24) K dX5_hangFrom_24 rfl ?_
  refine r_put (pc := 25) K dX5_hangFrom_25 fk_RX5_24 fn_5_3 rfl rfl h (fun h27 h => ?_)
  refine r_aload_n (pc := 28) K dX5_hangFrom_28 rfl ?_
  refine r_iload_n (pc := 29) K dX5_hangFrom_29 rfl ?_
  refine r_put (pc := 30) K dX5_hangFrom_30 fk_RX5_70 fn_5_4 rfl rfl h (fun h28 h => ?_)
  refine r_aload_n (pc := 33) K dX5_hangFrom_33 rfl ?_
  refine r_getR (pc := 34) K dX5_hangFrom_34 fk_RX5_20 h (fun r29 h => ?_)
  refine nn_k h (fun a30 hz hq30 => ?_)
  subst hz
  have h := hq30
  refine r_getI (pc := 37) K dX5_hangFrom_37 fk_RX5_56 h (fun x31 h => ?_)
  exact r_ireturn (pc := 40) K hr dX5_hangFrom_40 h (by decide) (by decide)
def rm_X7_hang : Room := { frames := 7, cells := 3, slots := 18, locals := 119 }
set_option maxRecDepth 100000 in
set_option maxHeartbeats 4000000 in
theorem M_X7_hang {D : va_G} {cA : Nat → ClassId} {h0 : Nat} {l : Launch} (hl : l.stackTraces = false) (a0 : Nat) (x1 : Int32) (x2 : Int32) (hp : hpT) (res : (Int32 ⊕ String) × hpT) (h : F_X7_hang a0 x1 x2 hp = some res) : vx_Met l yX7_hang (wsm yX7_hang cX7_hang 6 (some .int)) rm_X7_hang (va_Pc [va_rf (some a0), .int x1, .int x2] (Pre strL D cA h0 hp)) (QI D cA h0 res) (XE D cA h0 res) 3 18 (Af h0) := by
  unfold F_X7_hang at h
  refine g_entry (by decide +kernel) hl (cat_c rfl (cat_c rfl (cat_c rfl (cat_n)))) (Nat.le_of_ble_eq_true rfl) (lv := [some (va_rf (some a0)), some (.int x1), some (.int x2), none, none, none]) rfl ?_
  intro p e s m args below meth c K hr E hn
  have K : Cx strL D cA h0 p l s m args meth c cX7_hang RX7 6 := K
  refine r_aload_n (pc := 0) K dX7_hang_0 rfl ?_
  refine r_iload_n (pc := 1) K dX7_hang_1 rfl ?_
  refine v_ref (pc := 2) (st := []) (As := [.int x1]) (b := a0) (ci := 7) (q0 := (RX7, TX7, 8)) K E (fun _ e1 => M_X7_roomAt K.2.2.2.2.2.2.1 _ _ _ _ e1) h dX7_hang_2 ce_X7_roomAt cv_X7_roomAt lk_RX7_144 rfl rfl rfl rfl (by decide) rfl rfl (Nat.le_of_ble_eq_true rfl) rfl rfl (by decide) (by decide) (fun a21 h21 h => ?_)
  refine r_astore_n (pc := 5) (lv' := [some (va_rf (some a0)), some (.int x1), some (.int x2), some (va_rf (some a21)), none, none]) K dX7_hang_5 (by decide) rfl ?_
  refine r_aload_n (pc := 6) K dX7_hang_6 rfl ?_
  refine r_iload_n (pc := 7) K dX7_hang_7 rfl ?_
  refine v_ref (pc := 8) (st := []) (As := [.int x2]) (b := a0) (ci := 7) (q0 := (RX7, TX7, 8)) K E (fun _ e1 => M_X7_lotAt K.2.2.2.2.2.2.1 _ _ _ _ e1) h dX7_hang_8 ce_X7_lotAt cv_X7_lotAt lk_RX7_122 rfl rfl rfl rfl (by decide) rfl rfl (Nat.le_of_ble_eq_true rfl) rfl rfl (by decide) (by decide) (fun a22 h22 h => ?_)
  refine r_astore (pc := 11) (lv' := [some (va_rf (some a0)), some (.int x1), some (.int x2), some (va_rf (some a21)), some (va_rf (some a22)), none]) K dX7_hang_11 (by decide) rfl ?_
  refine r_aload_n (pc := 13) K dX7_hang_13 rfl ?_
  refine v_int (pc := 14) (st := []) (As := []) (b := a21) (ci := 5) (q0 := (RX5, TX5, 5)) K E (fun _ e1 => M_X5_isHung K.2.2.2.2.2.2.1 _ _ _ e1) h dX7_hang_14 ce_X5_isHung cv_X5_isHung lk_RX7_148 rfl rfl rfl rfl (by decide) rfl rfl (Nat.le_of_ble_eq_true rfl) rfl rfl (by decide) (by decide) (fun x23 h23 h => ?_)
  refine r_if_eq (pc := 17) (tgt := 30) K dX7_hang_17 (by decide) h (fun h _ => ?_) (fun h _ => ?_)
  · refine r_aload_n (pc := 30) K dX7_hang_30 rfl ?_
    refine r_getI (pc := 31) K dX7_hang_31 fk_RX7_159 h (fun x24 h => ?_)
    refine r_if_ne (pc := 34) (tgt := 47) K dX7_hang_34 (by decide) h (fun h _ => ?_) (fun h _ => ?_)
    · refine r_aload_n (pc := 47) K dX7_hang_47 rfl ?_
      refine r_aload (pc := 48) K dX7_hang_48 rfl ?_
      refine v_int (pc := 50) (st := []) (As := [va_rf (some a22)]) (b := a21) (ci := 5) (q0 := (RX5, TX5, 5)) K E (fun _ e1 => M_X5_bestPhase K.2.2.2.2.2.2.1 _ _ _ _ e1) h dX7_hang_50 ce_X5_bestPhase cv_X5_bestPhase lk_RX7_164 rfl rfl rfl rfl (by decide) rfl rfl (Nat.le_of_ble_eq_true rfl) rfl rfl (by decide) (by decide) (fun x25 h25 h => ?_)
      refine r_istore (pc := 53) (lv' := [some (va_rf (some a0)), some (.int x1), some (.int x2), some (va_rf (some a21)), some (va_rf (some a22)), some (.int x25)]) K dX7_hang_53 (by decide) rfl ?_
      refine r_iload (pc := 55) K dX7_hang_55 rfl ?_
      refine r_iconst (pc := 57) (v := (-1)) K dX7_hang_57 (by decide) ?_
      refine r_icmp_ne (pc := 58) (tgt := 71) K dX7_hang_58 (by decide) h (fun h _ => ?_) (fun h _ => ?_)
      · refine r_aload_n (pc := 71) K dX7_hang_71 rfl ?_
        refine r_aload (pc := 72) K dX7_hang_72 rfl ?_
        refine r_iload_n (pc := 74) K dX7_hang_74 rfl ?_
        refine r_iload (pc := 75) K dX7_hang_75 rfl ?_
        refine v_int (pc := 77) (st := []) (As := [va_rf (some a22), .int x2, .int x25]) (b := a21) (ci := 5) (q0 := (RX5, TX5, 5)) K E (fun _ e1 => M_X5_hangFrom K.2.2.2.2.2.2.1 _ _ _ _ _ _ e1) h dX7_hang_77 ce_X5_hangFrom cv_X5_hangFrom lk_RX7_170 rfl rfl rfl rfl (by decide) rfl rfl (Nat.le_of_ble_eq_true rfl) rfl rfl (by decide) (by decide) (fun x26 h26 h => ?_)
        exact r_ireturn (pc := 80) K hr dX7_hang_80 h (by decide) (by decide)
      · exact r_throw (pc := 61) K E dX7_hang_61 dX7_hang_64 dX7_hang_65 dX7_hang_67 dX7_hang_70 th_RX7_49_53 st_RX7_168 h (Nat.le_of_ble_eq_true rfl) (Nat.le_of_ble_eq_true rfl) (by decide) (by decide) (by decide) (by decide)
    · exact r_throw (pc := 37) K E dX7_hang_37 dX7_hang_40 dX7_hang_41 dX7_hang_43 dX7_hang_46 th_RX7_49_53 st_RX7_162 h (Nat.le_of_ble_eq_true rfl) (Nat.le_of_ble_eq_true rfl) (by decide) (by decide) (by decide) (by decide)
  · exact r_throw (pc := 20) K E dX7_hang_20 dX7_hang_23 dX7_hang_24 dX7_hang_26 dX7_hang_29 th_RX7_49_53 st_RX7_152 h (Nat.le_of_ble_eq_true rfl) (Nat.le_of_ble_eq_true rfl) (by decide) (by decide) (by decide) (by decide)
def rm_X7_wallAt : Room := { frames := 6, cells := 1, slots := 6, locals := 90 }
set_option maxRecDepth 100000 in
set_option maxHeartbeats 4000000 in
theorem B_X7_wallAt_b23 (K : Cx strL D cA h0 p l s m args meth c cX7_wallAt RX7 3) (hr : meth.sig.returnType = (some (.object "RollerLeaf$Wall"))) (E : ∀ x ∈ c.exceptionTable.toList, False) {res : (Nat ⊕ String) × hpT} : ∀ (rs0 : Option Nat) (hp : hpT), F_X7_wallAt_b23  rs0 hp = some res → G D cA h0 p l e rm_X7_wallAt s m args below meth c 3 (vx_MQ below (QR D cA h0 res) (XE D cA h0 res) args s 1 6 (Af h0)) 0 0 hp 23 [none, none, none] [va_rf rs0] := by
  intro rs0 hp h
  unfold F_X7_wallAt_b23 at h
  refine r_astore_n (pc := 23) (lv' := [none, none, some (va_rf rs0)]) K dX7_wallAt_23 (by decide) rfl ?_
  refine r_aload_n (pc := 24) K dX7_wallAt_24 rfl ?_
  refine r_ifnonnull (pc := 25) (tgt := 39) K dX7_wallAt_25 (by decide) h (fun hz hq21 => ?_) (fun a21 hz hq21 => ?_)
  · subst hz
    have h := hq21
    exact r_throwW (pc := 28) K E dX7_wallAt_28 dX7_wallAt_31 dX7_wallAt_32 dX7_wallAt_35 dX7_wallAt_38 th_RX7_70_74 st_RX7_261 h (Nat.le_of_ble_eq_true rfl) (Nat.le_of_ble_eq_true rfl) (by decide) (by decide) (by decide) (by decide)
  · subst hz
    have h := hq21
    refine r_aload_n (pc := 39) K dX7_wallAt_39 rfl ?_
    exact r_areturn (pc := 40) K hr dX7_wallAt_40 h (by decide) (by decide)
set_option maxRecDepth 100000 in
set_option maxHeartbeats 4000000 in
theorem B_X7_wallAt_b13 (K : Cx strL D cA h0 p l s m args meth c cX7_wallAt RX7 3) (hr : meth.sig.returnType = (some (.object "RollerLeaf$Wall"))) (E : ∀ x ∈ c.exceptionTable.toList, False) {res : (Nat ⊕ String) × hpT} : ∀ (hp : hpT), F_X7_wallAt_b13   hp = some res → G D cA h0 p l e rm_X7_wallAt s m args below meth c 3 (vx_MQ below (QR D cA h0 res) (XE D cA h0 res) args s 1 6 (Af h0)) 0 0 hp 13 [none, none, none] [] := by
  intro  hp h
  unfold F_X7_wallAt_b13 at h
  refine r_null (pc := 13) K dX7_wallAt_13 ?_
  refine r_goto (pc := 14) (tgt := 23) K dX7_wallAt_14 (by decide) ?_
  exact r_weak (lv2 := [none, none, none]) trivial (r_widen (by decide) (by decide) (B_X7_wallAt_b23 K hr E  _ _ h))
set_option maxRecDepth 100000 in
set_option maxHeartbeats 4000000 in
theorem M_X7_wallAt {D : va_G} {cA : Nat → ClassId} {h0 : Nat} {l : Launch} (hl : l.stackTraces = false) (a0 : Nat) (x1 : Int32) (hp : hpT) (res : (Nat ⊕ String) × hpT) (h : F_X7_wallAt a0 x1 hp = some res) : vx_Met l yX7_wallAt (wsm yX7_wallAt cX7_wallAt 3 (some (.object "RollerLeaf$Wall"))) rm_X7_wallAt (va_Pc [va_rf (some a0), .int x1] (Pre strL D cA h0 hp)) (QR D cA h0 res) (XE D cA h0 res) 1 6 (Af h0) := by
  unfold F_X7_wallAt at h
  refine g_entry (by decide +kernel) hl (cat_c rfl (cat_c rfl (cat_n))) (Nat.le_of_ble_eq_true rfl) (lv := [some (va_rf (some a0)), some (.int x1), none]) rfl ?_
  intro p e s m args below meth c K hr E hn
  have K : Cx strL D cA h0 p l s m args meth c cX7_wallAt RX7 3 := K
  refine r_iload_n (pc := 0) K dX7_wallAt_0 rfl ?_
  refine r_if_lt (pc := 1) (tgt := 13) K dX7_wallAt_1 (by decide) h (fun h _ => ?_) (fun h _ => ?_)
  · exact r_weak (lv2 := [none, none, none]) trivial (r_widen (by decide) (by decide) (B_X7_wallAt_b13 K hr E   _ h))
  · refine r_iload_n (pc := 4) K dX7_wallAt_4 rfl ?_
    refine r_aload_n (pc := 5) K dX7_wallAt_5 rfl ?_
    refine r_getR (pc := 6) K dX7_wallAt_6 fk_RX7_257 h (fun r22 h => ?_)
    refine nn_k h (fun a23 hz hq23 => ?_)
    subst hz
    have h := hq23
    refine r_alen (pc := 9) K dX7_wallAt_9 h (fun x24 h => ?_)
    refine r_icmp_lt (pc := 10) (tgt := 17) K dX7_wallAt_10 (by decide) h (fun h _ => ?_) (fun h _ => ?_)
    · refine r_aload_n (pc := 17) K dX7_wallAt_17 rfl ?_
      refine r_getR (pc := 18) K dX7_wallAt_18 fk_RX7_257 h (fun r25 h => ?_)
      refine r_iload_n (pc := 21) K dX7_wallAt_21 rfl ?_
      refine nn_k h (fun a26 hz hq26 => ?_)
      subst hz
      have h := hq26
      refine r_aald (pc := 22) K dX7_wallAt_22 (k0 := 6) rfl h (fun r27 h => ?_)
      exact r_weak (lv2 := [none, none, none]) trivial (r_widen (by decide) (by decide) (B_X7_wallAt_b23 K hr E  _ _ h))
    · exact r_weak (lv2 := [none, none, none]) trivial (r_widen (by decide) (by decide) (B_X7_wallAt_b13 K hr E   _ h))
def rm_X5_lengthenFrom : Room := { frames := 3, cells := 0, slots := 0, locals := 69 }
set_option maxRecDepth 100000 in
set_option maxHeartbeats 4000000 in
theorem M_X5_lengthenFrom {D : va_G} {cA : Nat → ClassId} {h0 : Nat} {l : Launch} (hl : l.stackTraces = false) (a0 : Nat) (a1 : Nat) (a2 : Nat) (x3 : Int32) (hp : hpT) (res : (Int32 ⊕ String) × hpT) (h : F_X5_lengthenFrom a0 a1 a2 x3 hp = some res) : vx_Met l yX5_lengthenFrom (wsm yX5_lengthenFrom cX5_lengthenFrom 7 (some .boolean)) rm_X5_lengthenFrom (va_Pc [va_rf (some a0), va_rf (some a1), va_rf (some a2), .int x3] (Pre strL D cA h0 hp)) (QI D cA h0 res) (XE D cA h0 res) 0 0 (Af h0) := by
  unfold F_X5_lengthenFrom at h
  refine g_entry (by decide +kernel) hl (cat_c rfl (cat_c rfl (cat_c rfl (cat_c rfl (cat_n))))) (Nat.le_of_ble_eq_true rfl) (lv := [some (va_rf (some a0)), some (va_rf (some a1)), some (va_rf (some a2)), some (.int x3), none, none, none]) rfl ?_
  intro p e s m args below meth c K hr E hn
  have K : Cx strL D cA h0 p l s m args meth c cX5_lengthenFrom RX5 7 := K
  refine r_aload_n (pc := 0) K dX5_lengthenFrom_0 rfl ?_
  refine r_getI (pc := 1) K dX5_lengthenFrom_1 fk_RX5_73 h (fun x21 h => ?_)
  refine r_istore (pc := 4) (lv' := [some (va_rf (some a0)), some (va_rf (some a1)), some (va_rf (some a2)), some (.int x3), some (.int x21), none, none]) K dX5_lengthenFrom_4 (by decide) rfl ?_
  refine r_aload_n (pc := 6) K dX5_lengthenFrom_6 rfl ?_
  refine r_getR (pc := 7) K dX5_lengthenFrom_7 fk_RX5_20 h (fun r22 h => ?_)
  refine nn_k h (fun a23 hz hq23 => ?_)
  subst hz
  have h := hq23
  refine r_getI (pc := 10) K dX5_lengthenFrom_10 fk_RX5_56 h (fun x24 h => ?_)
  refine r_istore (pc := 13) (lv' := [some (va_rf (some a0)), some (va_rf (some a1)), some (va_rf (some a2)), some (.int x3), some (.int x21), some (.int x24), none]) K dX5_lengthenFrom_13 (by decide) rfl ?_
  refine r_aload_n (pc := 15) K dX5_lengthenFrom_15 rfl ?_
  refine r_getR (pc := 16) K dX5_lengthenFrom_16 fk_RX5_20 h (fun r25 h => ?_)
  refine r_iload (pc := 19) K dX5_lengthenFrom_19 rfl ?_
  refine r_aload_n (pc := 21) K dX5_lengthenFrom_21 rfl ?_
  refine r_getI (pc := 22) K dX5_lengthenFrom_22 fk_RX5_67 h (fun x26 h => ?_)
  refine r_iadd (pc := 25) K dX5_lengthenFrom_25 ?_
  refine nn_k h (fun a27 hz hq27 => ?_)
  subst hz
  have h := hq27
  refine r_put (pc := 26) K dX5_lengthenFrom_26 fk_RX5_76 fn_2_2 rfl rfl h (fun h28 h => ?_)
  refine r_aload_n (pc := 29) K dX5_lengthenFrom_29 rfl ?_
  refine r_iload (pc := 30) K dX5_lengthenFrom_30 rfl ?_
  refine r_iload_n (pc := 32) K dX5_lengthenFrom_32 rfl ?_
  refine r_iadd (pc := 33) K dX5_lengthenFrom_33 ?_
  refine r_put (pc := 34) K dX5_lengthenFrom_34 fk_RX5_73 fn_6_2 rfl rfl h (fun h29 h => ?_)
  refine r_aload_n (pc := 37) K dX5_lengthenFrom_37 rfl ?_
  refine r_aload_n (pc := 38) K dX5_lengthenFrom_38 rfl ?_
  refine r_getR (pc := 39) K dX5_lengthenFrom_39 fk_RX5_20 h (fun r30 h => ?_)
  refine r_iload (pc := 42) K dX5_lengthenFrom_42 rfl ?_
  refine nn_k h (fun a31 hz hq31 => ?_)
  subst hz
  have h := hq31
  refine v_int (pc := 44) (st := []) (As := [va_rf (some a31), .int x21]) (b := a2) (ci := 6) (q0 := (RX6, TX6, 3)) K E (fun _ e1 => M_X6_takeDrops K.2.2.2.2.2.2.1 _ _ _ _ _ e1) h dX5_lengthenFrom_44 ce_X6_takeDrops cv_X6_takeDrops lk_RX5_63 rfl rfl rfl rfl (by decide) rfl rfl (Nat.le_of_ble_eq_true rfl) rfl rfl (by decide) (by decide) (fun x32 h32 h => ?_)
  refine r_istore (pc := 47) (lv' := [some (va_rf (some a0)), some (va_rf (some a1)), some (va_rf (some a2)), some (.int x3), some (.int x21), some (.int x24), some (.int x32)]) K dX5_lengthenFrom_47 (by decide) rfl ?_
  refine r_iload (pc := 49) K dX5_lengthenFrom_49 rfl ?_
  refine r_if_eq (pc := 51) (tgt := 73) K dX5_lengthenFrom_51 (by decide) h (fun h _ => ?_) (fun h _ => ?_)
  · refine r_iload (pc := 73) K dX5_lengthenFrom_73 rfl ?_
    exact r_zreturn (pc := 75) K hr dX5_lengthenFrom_75 h (by decide) (by decide)
  · refine r_aload_n (pc := 54) K dX5_lengthenFrom_54 rfl ?_
    refine r_dup (pc := 55) K dX5_lengthenFrom_55 rfl ?_
    refine r_getI (pc := 56) K dX5_lengthenFrom_56 fk_RX5_67 h (fun x33 h => ?_)
    refine r_aload_n (pc := 59) K dX5_lengthenFrom_59 rfl ?_
    refine r_getR (pc := 60) K dX5_lengthenFrom_60 fk_RX5_20 h (fun r34 h => ?_)
    refine nn_k h (fun a35 hz hq35 => ?_)
    subst hz
    have h := hq35
    refine r_getI (pc := 63) K dX5_lengthenFrom_63 fk_RX5_56 h (fun x36 h => ?_)
    refine r_iload (pc := 66) K dX5_lengthenFrom_66 rfl ?_
    refine r_isub (pc := 68) K dX5_lengthenFrom_68 ?_
    refine r_isub (pc := 69) K dX5_lengthenFrom_69 ?_
    refine r_put (pc := 70) K dX5_lengthenFrom_70 fk_RX5_67 fn_1_4 rfl rfl h (fun h37 h => ?_)
    refine r_iload (pc := 73) K dX5_lengthenFrom_73 rfl ?_
    exact r_zreturn (pc := 75) K hr dX5_lengthenFrom_75 h (by decide) (by decide)
def rm_X7_lose : Room := { frames := 0, cells := 0, slots := 0, locals := 0 }
set_option maxRecDepth 100000 in
set_option maxHeartbeats 4000000 in
theorem M_X7_lose {D : va_G} {cA : Nat → ClassId} {h0 : Nat} {l : Launch} (hl : l.stackTraces = false) (a0 : Nat) (a1 : Nat) (x2 : Int32) (hp : hpT) (res : (Unit ⊕ String) × hpT) (h : F_X7_lose a0 a1 x2 hp = some res) : vx_Met l yX7_lose (wsm yX7_lose cX7_lose 3 none) rm_X7_lose (va_Pc [va_rf (some a0), va_rf (some a1), .int x2] (Pre strL D cA h0 hp)) (QV D cA h0 res) (XE D cA h0 res) 0 0 (Af h0) := by
  unfold F_X7_lose at h
  refine g_entry (by decide +kernel) hl (cat_c rfl (cat_c rfl (cat_c rfl (cat_n)))) (Nat.le_of_ble_eq_true rfl) (lv := [some (va_rf (some a0)), some (va_rf (some a1)), some (.int x2)]) rfl ?_
  intro p e s m args below meth c K hr E hn
  have K : Cx strL D cA h0 p l s m args meth c cX7_lose RX7 3 := K
  refine r_aload_n (pc := 0) K dX7_lose_0 rfl ?_
  refine r_dup (pc := 1) K dX7_lose_1 rfl ?_
  refine r_getI (pc := 2) K dX7_lose_2 fk_RX7_246 h (fun x21 h => ?_)
  refine r_iload_n (pc := 5) K dX7_lose_5 rfl ?_
  refine r_aload_n (pc := 6) K dX7_lose_6 rfl ?_
  refine r_getI (pc := 7) K dX7_lose_7 fk_RX7_135 h (fun x22 h => ?_)
  refine r_imul (pc := 10) K dX7_lose_10 ?_
  refine r_iadd (pc := 11) K dX7_lose_11 ?_
  refine r_put (pc := 12) K dX7_lose_12 fk_RX7_246 fn_7_7 rfl rfl h (fun h23 h => ?_)
  exact r_vreturn (pc := 15) K hr dX7_lose_15 h (by decide) (by decide)
def rm_X5_makeBare : Room := { frames := 0, cells := 0, slots := 0, locals := 0 }
set_option maxRecDepth 100000 in
set_option maxHeartbeats 4000000 in
theorem M_X5_makeBare {D : va_G} {cA : Nat → ClassId} {h0 : Nat} {l : Launch} (hl : l.stackTraces = false) (a0 : Nat) (hp : hpT) (res : (Unit ⊕ String) × hpT) (h : F_X5_makeBare a0 hp = some res) : vx_Met l yX5_makeBare (wsm yX5_makeBare cX5_makeBare 1 none) rm_X5_makeBare (va_Pc [va_rf (some a0)] (Pre strL D cA h0 hp)) (QV D cA h0 res) (XE D cA h0 res) 0 0 (Af h0) := by
  unfold F_X5_makeBare at h
  refine g_entry (by decide +kernel) hl (cat_c rfl (cat_n)) (Nat.le_of_ble_eq_true rfl) (lv := [some (va_rf (some a0))]) rfl ?_
  intro p e s m args below meth c K hr E hn
  have K : Cx strL D cA h0 p l s m args meth c cX5_makeBare RX5 1 := K
  refine r_aload_n (pc := 0) K dX5_makeBare_0 rfl ?_
  refine r_null (pc := 1) K dX5_makeBare_1 ?_
  refine r_put (pc := 2) K dX5_makeBare_2 fk_RX5_24 fn_5_3 rfl rfl h (fun h21 h => ?_)
  exact r_vreturn (pc := 5) K hr dX5_makeBare_5 h (by decide) (by decide)
def rm_X7_lengthen : Room := { frames := 7, cells := 4, slots := 24, locals := 112 }
set_option maxRecDepth 100000 in
set_option maxHeartbeats 4000000 in
theorem M_X7_lengthen {D : va_G} {cA : Nat → ClassId} {h0 : Nat} {l : Launch} (hl : l.stackTraces = false) (a0 : Nat) (x1 : Int32) (x2 : Int32) (x3 : Int32) (hp : hpT) (res : (Int32 ⊕ String) × hpT) (h : F_X7_lengthen a0 x1 x2 x3 hp = some res) : vx_Met l yX7_lengthen (wsm yX7_lengthen cX7_lengthen 8 (some .int)) rm_X7_lengthen (va_Pc [va_rf (some a0), .int x1, .int x2, .int x3] (Pre strL D cA h0 hp)) (QI D cA h0 res) (XE D cA h0 res) 4 24 (Af h0) := by
  unfold F_X7_lengthen at h
  refine g_entry (by decide +kernel) hl (cat_c rfl (cat_c rfl (cat_c rfl (cat_c rfl (cat_n))))) (Nat.le_of_ble_eq_true rfl) (lv := [some (va_rf (some a0)), some (.int x1), some (.int x2), some (.int x3), none, none, none, none]) rfl ?_
  intro p e s m args below meth c K hr E hn
  have K : Cx strL D cA h0 p l s m args meth c cX7_lengthen RX7 8 := K
  refine r_aload_n (pc := 0) K dX7_lengthen_0 rfl ?_
  refine r_iload_n (pc := 1) K dX7_lengthen_1 rfl ?_
  refine v_ref (pc := 2) (st := []) (As := [.int x1]) (b := a0) (ci := 7) (q0 := (RX7, TX7, 8)) K E (fun _ e1 => M_X7_roomAt K.2.2.2.2.2.2.1 _ _ _ _ e1) h dX7_lengthen_2 ce_X7_roomAt cv_X7_roomAt lk_RX7_144 rfl rfl rfl rfl (by decide) rfl rfl (Nat.le_of_ble_eq_true rfl) rfl rfl (by decide) (by decide) (fun a21 h21 h => ?_)
  refine r_astore (pc := 5) (lv' := [some (va_rf (some a0)), some (.int x1), some (.int x2), some (.int x3), some (va_rf (some a21)), none, none, none]) K dX7_lengthen_5 (by decide) rfl ?_
  refine r_aload (pc := 7) K dX7_lengthen_7 rfl ?_
  refine r_iload_n (pc := 9) K dX7_lengthen_9 rfl ?_
  refine s_ref (pc := 10) (st := []) (As := [va_rf (some a21), .int x2]) K E (fun _ e1 => M_X7_wallAt K.2.2.2.2.2.2.1 _ _ _ _ e1) h dX7_lengthen_10 ce_X7_wallAt cs_X7_wallAt lk_RX7_174 rfl rfl (by decide) rfl rfl (Nat.le_of_ble_eq_true rfl) rfl rfl (by decide) (by decide) (fun a22 h22 h => ?_)
  refine r_astore (pc := 13) (lv' := [some (va_rf (some a0)), some (.int x1), some (.int x2), some (.int x3), some (va_rf (some a21)), some (va_rf (some a22)), none, none]) K dX7_lengthen_13 (by decide) rfl ?_
  refine r_iload_n (pc := 15) K dX7_lengthen_15 rfl ?_
  refine r_iconst (pc := 16) (v := 1) K dX7_lengthen_16 (by decide) ?_
  refine r_bipush (pc := 17) (v := 12) K dX7_lengthen_17 (by decide) ?_
  refine s_void (pc := 19) (st := []) (As := [.int x3, .int 1, .int 12]) K E (fun _ e1 => M_X7_requireWithin K.2.2.2.2.2.2.1 _ _ _ _ _ e1) h dX7_lengthen_19 ce_X7_requireWithin cs_X7_requireWithin lk_RX7_34 rfl rfl (by decide) rfl rfl (Nat.le_of_ble_eq_true rfl) rfl rfl (by decide) (by decide) (fun _ h23 h => ?_)
  refine r_aload (pc := 22) K dX7_lengthen_22 rfl ?_
  refine r_getR (pc := 24) K dX7_lengthen_24 fk_RX7_178 h (fun r24 h => ?_)
  refine r_astore (pc := 27) (lv' := [some (va_rf (some a0)), some (.int x1), some (.int x2), some (.int x3), some (va_rf (some a21)), some (va_rf (some a22)), some (va_rf r24), none]) K dX7_lengthen_27 (by decide) rfl ?_
  refine r_aload (pc := 29) K dX7_lengthen_29 rfl ?_
  refine r_ifnonnull (pc := 31) (tgt := 44) K dX7_lengthen_31 (by decide) h (fun hz hq25 => ?_) (fun a25 hz hq25 => ?_)
  · subst hz
    have h := hq25
    exact r_throw (pc := 34) K E dX7_lengthen_34 dX7_lengthen_37 dX7_lengthen_38 dX7_lengthen_40 dX7_lengthen_43 th_RX7_49_53 st_RX7_182 h (Nat.le_of_ble_eq_true rfl) (Nat.le_of_ble_eq_true rfl) (by decide) (by decide) (by decide) (by decide)
  · subst hz
    have h := hq25
    refine r_aload (pc := 44) K dX7_lengthen_44 rfl ?_
    refine r_getI (pc := 46) K dX7_lengthen_46 fk_RX7_184 h (fun x26 h => ?_)
    refine r_iload_n (pc := 49) K dX7_lengthen_49 rfl ?_
    refine r_iadd (pc := 50) K dX7_lengthen_50 ?_
    refine r_bipush (pc := 51) (v := 24) K dX7_lengthen_51 (by decide) ?_
    refine r_icmp_le (pc := 53) (tgt := 66) K dX7_lengthen_53 (by decide) h (fun h _ => ?_) (fun h _ => ?_)
    · refine r_aload (pc := 66) K dX7_lengthen_66 rfl ?_
      refine r_getR (pc := 68) K dX7_lengthen_68 fk_RX7_191 h (fun r27 h => ?_)
      refine nn_k h (fun a28 hz hq28 => ?_)
      subst hz
      have h := hq28
      refine r_getI (pc := 71) K dX7_lengthen_71 fk_RX7_195 h (fun x29 h => ?_)
      refine r_istore (pc := 74) (lv' := [some (va_rf (some a0)), some (.int x1), some (.int x2), some (.int x3), some (va_rf (some a21)), some (va_rf (some a22)), some (va_rf (some a25)), some (.int x29)]) K dX7_lengthen_74 (by decide) rfl ?_
      refine r_aload (pc := 76) K dX7_lengthen_76 rfl ?_
      refine r_aload (pc := 78) K dX7_lengthen_78 rfl ?_
      refine r_aload (pc := 80) K dX7_lengthen_80 rfl ?_
      refine r_iload_n (pc := 82) K dX7_lengthen_82 rfl ?_
      refine v_int (pc := 83) (st := []) (As := [va_rf (some a25), va_rf (some a22), .int x3]) (b := a21) (ci := 5) (q0 := (RX5, TX5, 5)) K E (fun _ e1 => M_X5_lengthenFrom K.2.2.2.2.2.2.1 _ _ _ _ _ _ e1) h dX7_lengthen_83 ce_X5_lengthenFrom cv_X5_lengthenFrom lk_RX7_200 rfl rfl rfl rfl (by decide) rfl rfl (Nat.le_of_ble_eq_true rfl) rfl rfl (by decide) (by decide) (fun x30 h30 h => ?_)
      refine r_if_eq (pc := 86) (tgt := 101) K dX7_lengthen_86 (by decide) h (fun h _ => ?_) (fun h _ => ?_)
      · refine r_aload_n (pc := 101) K dX7_lengthen_101 rfl ?_
        refine r_aload (pc := 102) K dX7_lengthen_102 rfl ?_
        refine r_iload (pc := 104) K dX7_lengthen_104 rfl ?_
        refine v_void (pc := 106) (st := []) (As := [va_rf (some a25), .int x29]) (b := a0) (ci := 7) (q0 := (RX7, TX7, 8)) K E (fun _ e1 => M_X7_lose K.2.2.2.2.2.2.1 _ _ _ _ _ e1) h dX7_lengthen_106 ce_X7_lose cv_X7_lose lk_RX7_204 rfl rfl rfl rfl (by decide) rfl rfl (Nat.le_of_ble_eq_true rfl) rfl rfl (by decide) (by decide) (fun _ h31 h => ?_)
        refine r_aload (pc := 109) K dX7_lengthen_109 rfl ?_
        refine v_void (pc := 111) (st := []) (As := []) (b := a21) (ci := 5) (q0 := (RX5, TX5, 5)) K E (fun _ e1 => M_X5_makeBare K.2.2.2.2.2.2.1 _ _ _ e1) h dX7_lengthen_111 ce_X5_makeBare cv_X5_makeBare lk_RX7_208 rfl rfl rfl rfl (by decide) rfl rfl (Nat.le_of_ble_eq_true rfl) rfl rfl (by decide) (by decide) (fun _ h32 h => ?_)
        refine r_iconst (pc := 114) (v := (-1)) K dX7_lengthen_114 (by decide) ?_
        exact r_ireturn (pc := 115) K hr dX7_lengthen_115 h (by decide) (by decide)
      · refine r_aload (pc := 89) K dX7_lengthen_89 rfl ?_
        refine r_getR (pc := 91) K dX7_lengthen_91 fk_RX7_191 h (fun r33 h => ?_)
        refine nn_k h (fun a34 hz hq34 => ?_)
        subst hz
        have h := hq34
        refine r_getI (pc := 94) K dX7_lengthen_94 fk_RX7_195 h (fun x35 h => ?_)
        refine r_iload (pc := 97) K dX7_lengthen_97 rfl ?_
        refine r_isub (pc := 99) K dX7_lengthen_99 ?_
        exact r_ireturn (pc := 100) K hr dX7_lengthen_100 h (by decide) (by decide)
    · exact r_throw (pc := 56) K E dX7_lengthen_56 dX7_lengthen_59 dX7_lengthen_60 dX7_lengthen_62 dX7_lengthen_65 th_RX7_49_53 st_RX7_189 h (Nat.le_of_ble_eq_true rfl) (Nat.le_of_ble_eq_true rfl) (by decide) (by decide) (by decide) (by decide)
def rm_X7_strip : Room := { frames := 7, cells := 2, slots := 12, locals := 112 }
set_option maxRecDepth 100000 in
set_option maxHeartbeats 4000000 in
theorem M_X7_strip {D : va_G} {cA : Nat → ClassId} {h0 : Nat} {l : Launch} (hl : l.stackTraces = false) (a0 : Nat) (x1 : Int32) (hp : hpT) (res : (Int32 ⊕ String) × hpT) (h : F_X7_strip a0 x1 hp = some res) : vx_Met l yX7_strip (wsm yX7_strip cX7_strip 5 (some .int)) rm_X7_strip (va_Pc [va_rf (some a0), .int x1] (Pre strL D cA h0 hp)) (QI D cA h0 res) (XE D cA h0 res) 2 12 (Af h0) := by
  unfold F_X7_strip at h
  refine g_entry (by decide +kernel) hl (cat_c rfl (cat_c rfl (cat_n))) (Nat.le_of_ble_eq_true rfl) (lv := [some (va_rf (some a0)), some (.int x1), none, none, none]) rfl ?_
  intro p e s m args below meth c K hr E hn
  have K : Cx strL D cA h0 p l s m args meth c cX7_strip RX7 5 := K
  refine r_aload_n (pc := 0) K dX7_strip_0 rfl ?_
  refine r_iload_n (pc := 1) K dX7_strip_1 rfl ?_
  refine v_ref (pc := 2) (st := []) (As := [.int x1]) (b := a0) (ci := 7) (q0 := (RX7, TX7, 8)) K E (fun _ e1 => M_X7_roomAt K.2.2.2.2.2.2.1 _ _ _ _ e1) h dX7_strip_2 ce_X7_roomAt cv_X7_roomAt lk_RX7_144 rfl rfl rfl rfl (by decide) rfl rfl (Nat.le_of_ble_eq_true rfl) rfl rfl (by decide) (by decide) (fun a21 h21 h => ?_)
  refine r_astore_n (pc := 5) (lv' := [some (va_rf (some a0)), some (.int x1), some (va_rf (some a21)), none, none]) K dX7_strip_5 (by decide) rfl ?_
  refine r_aload_n (pc := 6) K dX7_strip_6 rfl ?_
  refine r_getR (pc := 7) K dX7_strip_7 fk_RX7_178 h (fun r22 h => ?_)
  refine r_astore_n (pc := 10) (lv' := [some (va_rf (some a0)), some (.int x1), some (va_rf (some a21)), some (va_rf r22), none]) K dX7_strip_10 (by decide) rfl ?_
  refine r_aload_n (pc := 11) K dX7_strip_11 rfl ?_
  refine r_ifnonnull (pc := 12) (tgt := 25) K dX7_strip_12 (by decide) h (fun hz hq23 => ?_) (fun a23 hz hq23 => ?_)
  · subst hz
    have h := hq23
    exact r_throw (pc := 15) K E dX7_strip_15 dX7_strip_18 dX7_strip_19 dX7_strip_21 dX7_strip_24 th_RX7_49_53 st_RX7_182 h (Nat.le_of_ble_eq_true rfl) (Nat.le_of_ble_eq_true rfl) (by decide) (by decide) (by decide) (by decide)
  · subst hz
    have h := hq23
    refine r_aload_n (pc := 25) K dX7_strip_25 rfl ?_
    refine r_getR (pc := 26) K dX7_strip_26 fk_RX7_191 h (fun r24 h => ?_)
    refine nn_k h (fun a25 hz hq25 => ?_)
    subst hz
    have h := hq25
    refine r_getI (pc := 29) K dX7_strip_29 fk_RX7_195 h (fun x26 h => ?_)
    refine r_istore (pc := 32) (lv' := [some (va_rf (some a0)), some (.int x1), some (va_rf (some a21)), some (va_rf (some a23)), some (.int x26)]) K dX7_strip_32 (by decide) rfl ?_
    refine r_aload_n (pc := 34) K dX7_strip_34 rfl ?_
    refine r_aload_n (pc := 35) K dX7_strip_35 rfl ?_
    refine r_iload (pc := 36) K dX7_strip_36 rfl ?_
    refine v_void (pc := 38) (st := []) (As := [va_rf (some a23), .int x26]) (b := a0) (ci := 7) (q0 := (RX7, TX7, 8)) K E (fun _ e1 => M_X7_lose K.2.2.2.2.2.2.1 _ _ _ _ _ e1) h dX7_strip_38 ce_X7_lose cv_X7_lose lk_RX7_204 rfl rfl rfl rfl (by decide) rfl rfl (Nat.le_of_ble_eq_true rfl) rfl rfl (by decide) (by decide) (fun _ h27 h => ?_)
    refine r_aload_n (pc := 41) K dX7_strip_41 rfl ?_
    refine v_void (pc := 42) (st := []) (As := []) (b := a21) (ci := 5) (q0 := (RX5, TX5, 5)) K E (fun _ e1 => M_X5_makeBare K.2.2.2.2.2.2.1 _ _ _ e1) h dX7_strip_42 ce_X5_makeBare cv_X5_makeBare lk_RX7_208 rfl rfl rfl rfl (by decide) rfl rfl (Nat.le_of_ble_eq_true rfl) rfl rfl (by decide) (by decide) (fun _ h28 h => ?_)
    refine r_iload (pc := 45) K dX7_strip_45 rfl ?_
    exact r_ireturn (pc := 47) K hr dX7_strip_47 h (by decide) (by decide)
def rm_X5_allDrops : Room := { frames := 0, cells := 0, slots := 0, locals := 0 }
set_option maxRecDepth 100000 in
set_option maxHeartbeats 4000000 in
theorem B_X5_allDrops_b40 (K : Cx strL D cA h0 p l s m args meth c cX5_allDrops RX5 6) (hr : meth.sig.returnType = (some .int)) (E : ∀ x ∈ c.exceptionTable.toList, False) {res : (Int32 ⊕ String) × hpT} {K13 : Int32 → Option Nat → Int32 → Int32 → hpT → Rs Int32} (hK13 : ∀ (x1 : Int32) (r2 : Option Nat) (x3 : Int32) (x4 : Int32) (hp : hpT), K13 x1 r2 x3 x4 hp = some res → G D cA h0 p l e rm_X5_allDrops s m args below meth c 6 (vx_MQ below (QI D cA h0 res) (XE D cA h0 res) args s 0 0 (Af h0)) 0 0 hp 13 [none, some (.int x1), some (va_rf r2), some (.int x3), some (.int x4), none] []) : ∀ (r2 : Option Nat) (x3 : Int32) (x4 : Int32) (xs0 : Int32) (xs1 : Int32) (hp : hpT), F_X5_allDrops_b40 K13 r2 x3 x4 xs0 xs1 hp = some res → G D cA h0 p l e rm_X5_allDrops s m args below meth c 6 (vx_MQ below (QI D cA h0 res) (XE D cA h0 res) args s 0 0 (Af h0)) 0 0 hp 40 [none, none, some (va_rf r2), some (.int x3), some (.int x4), none] [.int xs0, .int xs1] := by
  intro r2 x3 x4 xs0 xs1 hp h
  unfold F_X5_allDrops_b40 at h
  refine r_iadd (pc := 40) K dX5_allDrops_40 ?_
  refine r_istore_n (pc := 41) (lv' := [none, some (.int (xs1 + xs0)), some (va_rf r2), some (.int x3), some (.int x4), none]) K dX5_allDrops_41 (by decide) rfl ?_
  refine r_iinc (pc := 42) (v := (x4 + 1)) (lv' := [none, some (.int (xs1 + xs0)), some (va_rf r2), some (.int x3), some (.int (x4 + 1)), none]) K dX5_allDrops_42 rfl rfl (by decide) rfl ?_
  refine r_goto (pc := 45) (tgt := 13) K dX5_allDrops_45 (by decide) ?_
  exact r_weak (lv2 := [none, some (.int (xs1 + xs0)), some (va_rf r2), some (.int x3), some (.int (x4 + 1)), none]) ⟨rfl, rfl, rfl, rfl, trivial⟩ ((hK13 _ _ _ _ _ h))
set_option maxRecDepth 100000 in
set_option maxHeartbeats 4000000 in
theorem B_X5_allDrops_b13 (K : Cx strL D cA h0 p l s m args meth c cX5_allDrops RX5 6) (hr : meth.sig.returnType = (some .int)) (E : ∀ x ∈ c.exceptionTable.toList, False) {res : (Int32 ⊕ String) × hpT} : ∀ (n : Nat) (x1 : Int32) (r2 : Option Nat) (x3 : Int32) (x4 : Int32) (hp : hpT), F_X5_allDrops_b13  n x1 r2 x3 x4 hp = some res → G D cA h0 p l e rm_X5_allDrops s m args below meth c 6 (vx_MQ below (QI D cA h0 res) (XE D cA h0 res) args s 0 0 (Af h0)) 0 0 hp 13 [none, some (.int x1), some (va_rf r2), some (.int x3), some (.int x4), none] [] := by
  intro n
  induction n with
  | zero => intro x1 r2 x3 x4 hp h; cases h
  | succ n ih =>
    intro x1 r2 x3 x4 hp h
    rw [F_X5_allDrops_b13] at h
    refine r_iload (pc := 13) K dX5_allDrops_13 rfl ?_
    refine r_iload_n (pc := 15) K dX5_allDrops_15 rfl ?_
    refine r_icmp_ge (pc := 16) (tgt := 48) K dX5_allDrops_16 (by decide) h (fun h _ => ?_) (fun h _ => ?_)
    · refine r_iload_n (pc := 48) K dX5_allDrops_48 rfl ?_
      exact r_ireturn (pc := 49) K hr dX5_allDrops_49 h (by decide) (by decide)
    · refine r_aload_n (pc := 19) K dX5_allDrops_19 rfl ?_
      refine r_iload (pc := 20) K dX5_allDrops_20 rfl ?_
      refine nn_k h (fun a21 hz hq21 => ?_)
      subst hz
      have h := hq21
      refine r_aald (pc := 22) K dX5_allDrops_22 (k0 := 6) rfl h (fun r22 h => ?_)
      refine r_astore (pc := 23) (lv' := [none, some (.int x1), some (va_rf (some a21)), some (.int x3), some (.int x4), some (va_rf r22)]) K dX5_allDrops_23 (by decide) rfl ?_
      refine r_iload_n (pc := 25) K dX5_allDrops_25 rfl ?_
      refine r_aload (pc := 26) K dX5_allDrops_26 rfl ?_
      refine r_ifnonnull (pc := 28) (tgt := 35) K dX5_allDrops_28 (by decide) h (fun hz hq23 => ?_) (fun a23 hz hq23 => ?_)
      · subst hz
        have h := hq23
        refine r_iconst (pc := 31) (v := 0) K dX5_allDrops_31 (by decide) ?_
        refine r_goto (pc := 32) (tgt := 40) K dX5_allDrops_32 (by decide) ?_
        exact r_weak (lv2 := [none, none, some (va_rf (some a21)), some (.int x3), some (.int x4), none]) ⟨rfl, rfl, rfl, trivial⟩ ((B_X5_allDrops_b40 K hr E ih  _ _ _ _ _ _ h))
      · subst hz
        have h := hq23
        refine r_aload (pc := 35) K dX5_allDrops_35 rfl ?_
        refine r_getI (pc := 37) K dX5_allDrops_37 fk_RX5_73 h (fun x24 h => ?_)
        exact r_weak (lv2 := [none, none, some (va_rf (some a21)), some (.int x3), some (.int x4), none]) ⟨rfl, rfl, rfl, trivial⟩ ((B_X5_allDrops_b40 K hr E ih  _ _ _ _ _ _ h))
set_option maxRecDepth 100000 in
set_option maxHeartbeats 4000000 in
theorem M_X5_allDrops {D : va_G} {cA : Nat → ClassId} {h0 : Nat} {l : Launch} (hl : l.stackTraces = false) (a0 : Nat) (hp : hpT) (res : (Int32 ⊕ String) × hpT) (h : F_X5_allDrops a0 hp = some res) : vx_Met l yX5_allDrops (wsm yX5_allDrops cX5_allDrops 6 (some .int)) rm_X5_allDrops (va_Pc [va_rf (some a0)] (Pre strL D cA h0 hp)) (QI D cA h0 res) (XE D cA h0 res) 0 0 (Af h0) := by
  unfold F_X5_allDrops at h
  refine g_entry (by decide +kernel) hl (cat_c rfl (cat_n)) (Nat.le_of_ble_eq_true rfl) (lv := [some (va_rf (some a0)), none, none, none, none, none]) rfl ?_
  intro p e s m args below meth c K hr E hn
  have K : Cx strL D cA h0 p l s m args meth c cX5_allDrops RX5 6 := K
  refine r_iconst (pc := 0) (v := 0) K dX5_allDrops_0 (by decide) ?_
  refine r_istore_n (pc := 1) (lv' := [some (va_rf (some a0)), some (.int 0), none, none, none, none]) K dX5_allDrops_1 (by decide) rfl ?_
  refine r_aload_n (pc := 2) K dX5_allDrops_2 rfl ?_
  refine r_getR (pc := 3) K dX5_allDrops_3 fk_RX5_11 h (fun r25 h => ?_)
  refine r_astore_n (pc := 6) (lv' := [some (va_rf (some a0)), some (.int 0), some (va_rf r25), none, none, none]) K dX5_allDrops_6 (by decide) rfl ?_
  refine r_aload_n (pc := 7) K dX5_allDrops_7 rfl ?_
  refine nn_k h (fun a26 hz hq26 => ?_)
  subst hz
  have h := hq26
  refine r_alen (pc := 8) K dX5_allDrops_8 h (fun x27 h => ?_)
  refine r_istore_n (pc := 9) (lv' := [some (va_rf (some a0)), some (.int 0), some (va_rf (some a26)), some (.int x27), none, none]) K dX5_allDrops_9 (by decide) rfl ?_
  refine r_iconst (pc := 10) (v := 0) K dX5_allDrops_10 (by decide) ?_
  refine r_istore (pc := 11) (lv' := [some (va_rf (some a0)), some (.int 0), some (va_rf (some a26)), some (.int x27), some (.int 0), none]) K dX5_allDrops_11 (by decide) rfl ?_
  exact r_weak (lv2 := [none, some (.int 0), some (va_rf (some a26)), some (.int x27), some (.int 0), none]) ⟨rfl, rfl, rfl, rfl, trivial⟩ ((B_X5_allDrops_b13 K hr E 1000 _ _ _ _ _ h))
def rm_X5_waste : Room := { frames := 0, cells := 0, slots := 0, locals := 0 }
set_option maxRecDepth 100000 in
set_option maxHeartbeats 4000000 in
theorem B_X5_waste_b69 (K : Cx strL D cA h0 p l s m args meth c cX5_waste RX5 6) (hr : meth.sig.returnType = (some .int)) (E : ∀ x ∈ c.exceptionTable.toList, False) {res : (Int32 ⊕ String) × hpT} {K36 : Int32 → Option Nat → Int32 → Int32 → hpT → Rs Int32} (hK36 : ∀ (x1 : Int32) (r2 : Option Nat) (x3 : Int32) (x4 : Int32) (hp : hpT), K36 x1 r2 x3 x4 hp = some res → G D cA h0 p l e rm_X5_waste s m args below meth c 6 (vx_MQ below (QI D cA h0 res) (XE D cA h0 res) args s 0 0 (Af h0)) 0 0 hp 36 [none, some (.int x1), some (va_rf r2), some (.int x3), some (.int x4), none] []) : ∀ (r2 : Option Nat) (x3 : Int32) (x4 : Int32) (xs0 : Int32) (xs1 : Int32) (hp : hpT), F_X5_waste_b69 K36 r2 x3 x4 xs0 xs1 hp = some res → G D cA h0 p l e rm_X5_waste s m args below meth c 6 (vx_MQ below (QI D cA h0 res) (XE D cA h0 res) args s 0 0 (Af h0)) 0 0 hp 69 [none, none, some (va_rf r2), some (.int x3), some (.int x4), none] [.int xs0, .int xs1] := by
  intro r2 x3 x4 xs0 xs1 hp h
  unfold F_X5_waste_b69 at h
  refine r_isub (pc := 69) K dX5_waste_69 ?_
  refine r_istore_n (pc := 70) (lv' := [none, some (.int (xs1 - xs0)), some (va_rf r2), some (.int x3), some (.int x4), none]) K dX5_waste_70 (by decide) rfl ?_
  refine r_iinc (pc := 71) (v := (x4 + 1)) (lv' := [none, some (.int (xs1 - xs0)), some (va_rf r2), some (.int x3), some (.int (x4 + 1)), none]) K dX5_waste_71 rfl rfl (by decide) rfl ?_
  refine r_goto (pc := 74) (tgt := 36) K dX5_waste_74 (by decide) ?_
  exact r_weak (lv2 := [none, some (.int (xs1 - xs0)), some (va_rf r2), some (.int x3), some (.int (x4 + 1)), none]) ⟨rfl, rfl, rfl, rfl, trivial⟩ ((hK36 _ _ _ _ _ h))
set_option maxRecDepth 100000 in
set_option maxHeartbeats 4000000 in
theorem B_X5_waste_b36 (K : Cx strL D cA h0 p l s m args meth c cX5_waste RX5 6) (hr : meth.sig.returnType = (some .int)) (E : ∀ x ∈ c.exceptionTable.toList, False) {res : (Int32 ⊕ String) × hpT} : ∀ (n : Nat) (x1 : Int32) (r2 : Option Nat) (x3 : Int32) (x4 : Int32) (hp : hpT), F_X5_waste_b36  n x1 r2 x3 x4 hp = some res → G D cA h0 p l e rm_X5_waste s m args below meth c 6 (vx_MQ below (QI D cA h0 res) (XE D cA h0 res) args s 0 0 (Af h0)) 0 0 hp 36 [none, some (.int x1), some (va_rf r2), some (.int x3), some (.int x4), none] [] := by
  intro n
  induction n with
  | zero => intro x1 r2 x3 x4 hp h; cases h
  | succ n ih =>
    intro x1 r2 x3 x4 hp h
    rw [F_X5_waste_b36] at h
    refine r_iload (pc := 36) K dX5_waste_36 rfl ?_
    refine r_iload_n (pc := 38) K dX5_waste_38 rfl ?_
    refine r_icmp_ge (pc := 39) (tgt := 77) K dX5_waste_39 (by decide) h (fun h _ => ?_) (fun h _ => ?_)
    · refine r_iload_n (pc := 77) K dX5_waste_77 rfl ?_
      exact r_ireturn (pc := 78) K hr dX5_waste_78 h (by decide) (by decide)
    · refine r_aload_n (pc := 42) K dX5_waste_42 rfl ?_
      refine r_iload (pc := 43) K dX5_waste_43 rfl ?_
      refine nn_k h (fun a21 hz hq21 => ?_)
      subst hz
      have h := hq21
      refine r_aald (pc := 45) K dX5_waste_45 (k0 := 6) rfl h (fun r22 h => ?_)
      refine r_astore (pc := 46) (lv' := [none, some (.int x1), some (va_rf (some a21)), some (.int x3), some (.int x4), some (va_rf r22)]) K dX5_waste_46 (by decide) rfl ?_
      refine r_iload_n (pc := 48) K dX5_waste_48 rfl ?_
      refine r_aload (pc := 49) K dX5_waste_49 rfl ?_
      refine r_ifnonnull (pc := 51) (tgt := 58) K dX5_waste_51 (by decide) h (fun hz hq23 => ?_) (fun a23 hz hq23 => ?_)
      · subst hz
        have h := hq23
        refine r_iconst (pc := 54) (v := 0) K dX5_waste_54 (by decide) ?_
        refine r_goto (pc := 55) (tgt := 69) K dX5_waste_55 (by decide) ?_
        exact r_weak (lv2 := [none, none, some (va_rf (some a21)), some (.int x3), some (.int x4), none]) ⟨rfl, rfl, rfl, trivial⟩ ((B_X5_waste_b69 K hr E ih  _ _ _ _ _ _ h))
      · subst hz
        have h := hq23
        refine r_aload (pc := 58) K dX5_waste_58 rfl ?_
        refine r_getI (pc := 60) K dX5_waste_60 fk_RX5_73 h (fun x24 h => ?_)
        refine r_aload (pc := 63) K dX5_waste_63 rfl ?_
        refine r_getI (pc := 65) K dX5_waste_65 fk_RX5_82 h (fun x25 h => ?_)
        refine r_imul (pc := 68) K dX5_waste_68 ?_
        exact r_weak (lv2 := [none, none, some (va_rf (some a21)), some (.int x3), some (.int x4), none]) ⟨rfl, rfl, rfl, trivial⟩ ((B_X5_waste_b69 K hr E ih  _ _ _ _ _ _ h))
set_option maxRecDepth 100000 in
set_option maxHeartbeats 4000000 in
theorem M_X5_waste {D : va_G} {cA : Nat → ClassId} {h0 : Nat} {l : Launch} (hl : l.stackTraces = false) (a0 : Nat) (hp : hpT) (res : (Int32 ⊕ String) × hpT) (h : F_X5_waste a0 hp = some res) : vx_Met l yX5_waste (wsm yX5_waste cX5_waste 6 (some .int)) rm_X5_waste (va_Pc [va_rf (some a0)] (Pre strL D cA h0 hp)) (QI D cA h0 res) (XE D cA h0 res) 0 0 (Af h0) := by
  unfold F_X5_waste at h
  refine g_entry (by decide +kernel) hl (cat_c rfl (cat_n)) (Nat.le_of_ble_eq_true rfl) (lv := [some (va_rf (some a0)), none, none, none, none, none]) rfl ?_
  intro p e s m args below meth c K hr E hn
  have K : Cx strL D cA h0 p l s m args meth c cX5_waste RX5 6 := K
  refine r_aload_n (pc := 0) K dX5_waste_0 rfl ?_
  refine r_getR (pc := 1) K dX5_waste_1 fk_RX5_24 h (fun r26 h => ?_)
  refine r_ifnonnull (pc := 4) (tgt := 9) K dX5_waste_4 (by decide) h (fun hz hq27 => ?_) (fun a27 hz hq27 => ?_)
  · subst hz
    have h := hq27
    refine r_iconst (pc := 7) (v := (-1)) K dX5_waste_7 (by decide) ?_
    exact r_ireturn (pc := 8) K hr dX5_waste_8 h (by decide) (by decide)
  · subst hz
    have h := hq27
    refine r_aload_n (pc := 9) K dX5_waste_9 rfl ?_
    refine r_getR (pc := 10) K dX5_waste_10 fk_RX5_20 h (fun r28 h => ?_)
    refine nn_k h (fun a29 hz hq29 => ?_)
    subst hz
    have h := hq29
    refine r_getI (pc := 13) K dX5_waste_13 fk_RX5_56 h (fun x30 h => ?_)
    refine r_aload_n (pc := 16) K dX5_waste_16 rfl ?_
    refine r_getR (pc := 17) K dX5_waste_17 fk_RX5_24 h (fun r31 h => ?_)
    refine nn_k h (fun a32 hz hq32 => ?_)
    subst hz
    have h := hq32
    refine r_getI (pc := 20) K dX5_waste_20 fk_RX5_79 h (fun x33 h => ?_)
    refine r_imul (pc := 23) K dX5_waste_23 ?_
    refine r_istore_n (pc := 24) (lv' := [some (va_rf (some a0)), some (.int (x30 * x33)), none, none, none, none]) K dX5_waste_24 (by decide) rfl ?_
    refine r_aload_n (pc := 25) K dX5_waste_25 rfl ?_
    refine r_getR (pc := 26) K dX5_waste_26 fk_RX5_11 h (fun r34 h => ?_)
    refine r_astore_n (pc := 29) (lv' := [some (va_rf (some a0)), some (.int (x30 * x33)), some (va_rf r34), none, none, none]) K dX5_waste_29 (by decide) rfl ?_
    refine r_aload_n (pc := 30) K dX5_waste_30 rfl ?_
    refine nn_k h (fun a35 hz hq35 => ?_)
    subst hz
    have h := hq35
    refine r_alen (pc := 31) K dX5_waste_31 h (fun x36 h => ?_)
    refine r_istore_n (pc := 32) (lv' := [some (va_rf (some a0)), some (.int (x30 * x33)), some (va_rf (some a35)), some (.int x36), none, none]) K dX5_waste_32 (by decide) rfl ?_
    refine r_iconst (pc := 33) (v := 0) K dX5_waste_33 (by decide) ?_
    refine r_istore (pc := 34) (lv' := [some (va_rf (some a0)), some (.int (x30 * x33)), some (va_rf (some a35)), some (.int x36), some (.int 0), none]) K dX5_waste_34 (by decide) rfl ?_
    exact r_weak (lv2 := [none, some (.int (x30 * x33)), some (va_rf (some a35)), some (.int x36), some (.int 0), none]) ⟨rfl, rfl, rfl, rfl, trivial⟩ ((B_X5_waste_b36 K hr E 1000 _ _ _ _ _ h))
def rm_X7_room : Room := { frames := 7, cells := 2, slots := 12, locals := 112 }
set_option maxRecDepth 100000 in
set_option maxHeartbeats 4000000 in
theorem M_X7_room {D : va_G} {cA : Nat → ClassId} {h0 : Nat} {l : Launch} (hl : l.stackTraces = false) (a0 : Nat) (x1 : Int32) (x2 : Int32) (hp : hpT) (res : (Int32 ⊕ String) × hpT) (h : F_X7_room a0 x1 x2 hp = some res) : vx_Met l yX7_room (wsm yX7_room cX7_room 4 (some .int)) rm_X7_room (va_Pc [va_rf (some a0), .int x1, .int x2] (Pre strL D cA h0 hp)) (QI D cA h0 res) (XE D cA h0 res) 2 12 (Af h0) := by
  unfold F_X7_room at h
  refine g_entry (by decide +kernel) hl (cat_c rfl (cat_c rfl (cat_c rfl (cat_n)))) (Nat.le_of_ble_eq_true rfl) (lv := [some (va_rf (some a0)), some (.int x1), some (.int x2), none]) rfl ?_
  intro p e s m args below meth c K hr E hn
  have K : Cx strL D cA h0 p l s m args meth c cX7_room RX7 4 := K
  refine r_aload_n (pc := 0) K dX7_room_0 rfl ?_
  refine r_iload_n (pc := 1) K dX7_room_1 rfl ?_
  refine v_ref (pc := 2) (st := []) (As := [.int x1]) (b := a0) (ci := 7) (q0 := (RX7, TX7, 8)) K E (fun _ e1 => M_X7_roomAt K.2.2.2.2.2.2.1 _ _ _ _ e1) h dX7_room_2 ce_X7_roomAt cv_X7_roomAt lk_RX7_144 rfl rfl rfl rfl (by decide) rfl rfl (Nat.le_of_ble_eq_true rfl) rfl rfl (by decide) (by decide) (fun a21 h21 h => ?_)
  refine r_astore_n (pc := 5) (lv' := [some (va_rf (some a0)), some (.int x1), some (.int x2), some (va_rf (some a21))]) K dX7_room_5 (by decide) rfl ?_
  refine r_iload_n (pc := 6) K dX7_room_6 rfl ?_
  rcases tsw_if h with ⟨c0, h⟩ | ⟨c0, h⟩
  · refine r_tswIn (pc := 7) (off := 37) (tgt := 44) K c0 dX7_room_7 (by decide) (by decide) (by decide) (by decide) ?_
    refine r_aload_n (pc := 44) K dX7_room_44 rfl ?_
    refine r_getI (pc := 45) K dX7_room_45 fk_RX7_159 h (fun x22 h => ?_)
    exact r_ireturn (pc := 48) K hr dX7_room_48 h (by decide) (by decide)
  · rcases tsw_if h with ⟨c1, h⟩ | ⟨c1, h⟩
    · refine r_tswIn (pc := 7) (off := 42) (tgt := 49) K c1 dX7_room_7 (by decide) (by decide) (by decide) (by decide) ?_
      refine r_aload_n (pc := 49) K dX7_room_49 rfl ?_
      refine v_int (pc := 50) (st := []) (As := []) (b := a21) (ci := 5) (q0 := (RX5, TX5, 5)) K E (fun _ e1 => M_X5_allDrops K.2.2.2.2.2.2.1 _ _ _ e1) h dX7_room_50 ce_X5_allDrops cv_X5_allDrops lk_RX7_211 rfl rfl rfl rfl (by decide) rfl rfl (Nat.le_of_ble_eq_true rfl) rfl rfl (by decide) (by decide) (fun x23 h23 h => ?_)
      exact r_ireturn (pc := 53) K hr dX7_room_53 h (by decide) (by decide)
    · rcases tsw_if h with ⟨c2, h⟩ | ⟨c2, h⟩
      · refine r_tswIn (pc := 7) (off := 47) (tgt := 54) K c2 dX7_room_7 (by decide) (by decide) (by decide) (by decide) ?_
        refine r_aload_n (pc := 54) K dX7_room_54 rfl ?_
        refine v_int (pc := 55) (st := []) (As := []) (b := a21) (ci := 5) (q0 := (RX5, TX5, 5)) K E (fun _ e1 => M_X5_isHung K.2.2.2.2.2.2.1 _ _ _ e1) h dX7_room_55 ce_X5_isHung cv_X5_isHung lk_RX7_148 rfl rfl rfl rfl (by decide) rfl rfl (Nat.le_of_ble_eq_true rfl) rfl rfl (by decide) (by decide) (fun x24 h24 h => ?_)
        refine r_if_eq (pc := 58) (tgt := 68) K dX7_room_58 (by decide) h (fun h _ => ?_) (fun h _ => ?_)
        · refine r_iconst (pc := 68) (v := (-1)) K dX7_room_68 (by decide) ?_
          exact r_ireturn (pc := 69) K hr dX7_room_69 h (by decide) (by decide)
        · refine r_aload_n (pc := 61) K dX7_room_61 rfl ?_
          refine r_getI (pc := 62) K dX7_room_62 fk_RX7_214 h (fun x25 h => ?_)
          refine r_goto (pc := 65) (tgt := 69) K dX7_room_65 (by decide) ?_
          exact r_ireturn (pc := 69) K hr dX7_room_69 h (by decide) (by decide)
      · rcases tsw_if h with ⟨c3, h⟩ | ⟨c3, h⟩
        · refine r_tswIn (pc := 7) (off := 63) (tgt := 70) K c3 dX7_room_7 (by decide) (by decide) (by decide) (by decide) ?_
          refine r_aload_n (pc := 70) K dX7_room_70 rfl ?_
          refine v_int (pc := 71) (st := []) (As := []) (b := a21) (ci := 5) (q0 := (RX5, TX5, 5)) K E (fun _ e1 => M_X5_isHung K.2.2.2.2.2.2.1 _ _ _ e1) h dX7_room_71 ce_X5_isHung cv_X5_isHung lk_RX7_148 rfl rfl rfl rfl (by decide) rfl rfl (Nat.le_of_ble_eq_true rfl) rfl rfl (by decide) (by decide) (fun x26 h26 h => ?_)
          refine r_if_eq (pc := 74) (tgt := 87) K dX7_room_74 (by decide) h (fun h _ => ?_) (fun h _ => ?_)
          · refine r_iconst (pc := 87) (v := (-1)) K dX7_room_87 (by decide) ?_
            exact r_ireturn (pc := 88) K hr dX7_room_88 h (by decide) (by decide)
          · refine r_aload_n (pc := 77) K dX7_room_77 rfl ?_
            refine r_getR (pc := 78) K dX7_room_78 fk_RX7_191 h (fun r27 h => ?_)
            refine nn_k h (fun a28 hz hq28 => ?_)
            subst hz
            have h := hq28
            refine r_getI (pc := 81) K dX7_room_81 fk_RX7_217 h (fun x29 h => ?_)
            refine r_goto (pc := 84) (tgt := 88) K dX7_room_84 (by decide) ?_
            exact r_ireturn (pc := 88) K hr dX7_room_88 h (by decide) (by decide)
        · rcases tsw_if h with ⟨c4, h⟩ | ⟨c4, h⟩
          · refine r_tswIn (pc := 7) (off := 82) (tgt := 89) K c4 dX7_room_7 (by decide) (by decide) (by decide) (by decide) ?_
            refine r_aload_n (pc := 89) K dX7_room_89 rfl ?_
            refine v_int (pc := 90) (st := []) (As := []) (b := a21) (ci := 5) (q0 := (RX5, TX5, 5)) K E (fun _ e1 => M_X5_isHung K.2.2.2.2.2.2.1 _ _ _ e1) h dX7_room_90 ce_X5_isHung cv_X5_isHung lk_RX7_148 rfl rfl rfl rfl (by decide) rfl rfl (Nat.le_of_ble_eq_true rfl) rfl rfl (by decide) (by decide) (fun x30 h30 h => ?_)
            refine r_if_eq (pc := 93) (tgt := 106) K dX7_room_93 (by decide) h (fun h _ => ?_) (fun h _ => ?_)
            · refine r_iconst (pc := 106) (v := (-1)) K dX7_room_106 (by decide) ?_
              exact r_ireturn (pc := 107) K hr dX7_room_107 h (by decide) (by decide)
            · refine r_aload_n (pc := 96) K dX7_room_96 rfl ?_
              refine r_getR (pc := 97) K dX7_room_97 fk_RX7_191 h (fun r31 h => ?_)
              refine nn_k h (fun a32 hz hq32 => ?_)
              subst hz
              have h := hq32
              refine r_getI (pc := 100) K dX7_room_100 fk_RX7_195 h (fun x33 h => ?_)
              refine r_goto (pc := 103) (tgt := 107) K dX7_room_103 (by decide) ?_
              exact r_ireturn (pc := 107) K hr dX7_room_107 h (by decide) (by decide)
          · rcases tsw_if h with ⟨c5, h⟩ | ⟨c5, h⟩
            · refine r_tswIn (pc := 7) (off := 101) (tgt := 108) K c5 dX7_room_7 (by decide) (by decide) (by decide) (by decide) ?_
              refine r_aload_n (pc := 108) K dX7_room_108 rfl ?_
              refine v_int (pc := 109) (st := []) (As := []) (b := a21) (ci := 5) (q0 := (RX5, TX5, 5)) K E (fun _ e1 => M_X5_waste K.2.2.2.2.2.2.1 _ _ _ e1) h dX7_room_109 ce_X5_waste cv_X5_waste lk_RX7_220 rfl rfl rfl rfl (by decide) rfl rfl (Nat.le_of_ble_eq_true rfl) rfl rfl (by decide) (by decide) (fun x34 h34 h => ?_)
              exact r_ireturn (pc := 112) K hr dX7_room_112 h (by decide) (by decide)
            · refine r_tswOut (pc := 7) (tgt := 113) K dX7_room_7 (by have e0 := lv_neT (a := 0) c0 (by decide); have e1 := lv_neT (a := 1) c1 (by decide); have e2 := lv_neT (a := 2) c2 (by decide); have e3 := lv_neT (a := 3) c3 (by decide); have e4 := lv_neT (a := 4) c4 (by decide); have e5 := lv_neT (a := 5) c5 (by decide); omega) (by decide) ?_
              exact r_throw (pc := 113) K E dX7_room_113 dX7_room_116 dX7_room_117 dX7_room_119 dX7_room_122 th_RX7_38_42 st_RX7_223 h (Nat.le_of_ble_eq_true rfl) (Nat.le_of_ble_eq_true rfl) (by decide) (by decide) (by decide) (by decide)
def rm_X7_cut : Room := { frames := 7, cells := 3, slots := 18, locals := 112 }
set_option maxRecDepth 100000 in
set_option maxHeartbeats 4000000 in
theorem B_X7_cut_b38 (K : Cx strL D cA h0 p l s m args meth c cX7_cut RX7 6) (hr : meth.sig.returnType = (some .int)) (E : ∀ x ∈ c.exceptionTable.toList, False) {res : (Int32 ⊕ String) × hpT} : ∀ (hp : hpT), F_X7_cut_b38   hp = some res → G D cA h0 p l e rm_X7_cut s m args below meth c 6 (vx_MQ below (QI D cA h0 res) (XE D cA h0 res) args s 3 18 (Af h0)) 2 12 hp 38 [none, none, none, none, none, none] [] := by
  intro  hp h
  unfold F_X7_cut_b38 at h
  exact r_throw (pc := 38) K E dX7_cut_38 dX7_cut_41 dX7_cut_42 dX7_cut_44 dX7_cut_47 th_RX7_70_74 st_RX7_229 h (Nat.le_of_ble_eq_true rfl) (Nat.le_of_ble_eq_true rfl) (by decide) (by decide) (by decide) (by decide)
set_option maxRecDepth 100000 in
set_option maxHeartbeats 4000000 in
theorem M_X7_cut {D : va_G} {cA : Nat → ClassId} {h0 : Nat} {l : Launch} (hl : l.stackTraces = false) (a0 : Nat) (x1 : Int32) (x2 : Int32) (x3 : Int32) (hp : hpT) (res : (Int32 ⊕ String) × hpT) (h : F_X7_cut a0 x1 x2 x3 hp = some res) : vx_Met l yX7_cut (wsm yX7_cut cX7_cut 6 (some .int)) rm_X7_cut (va_Pc [va_rf (some a0), .int x1, .int x2, .int x3] (Pre strL D cA h0 hp)) (QI D cA h0 res) (XE D cA h0 res) 3 18 (Af h0) := by
  unfold F_X7_cut at h
  refine g_entry (by decide +kernel) hl (cat_c rfl (cat_c rfl (cat_c rfl (cat_c rfl (cat_n))))) (Nat.le_of_ble_eq_true rfl) (lv := [some (va_rf (some a0)), some (.int x1), some (.int x2), some (.int x3), none, none]) rfl ?_
  intro p e s m args below meth c K hr E hn
  have K : Cx strL D cA h0 p l s m args meth c cX7_cut RX7 6 := K
  refine r_aload_n (pc := 0) K dX7_cut_0 rfl ?_
  refine r_iload_n (pc := 1) K dX7_cut_1 rfl ?_
  refine v_ref (pc := 2) (st := []) (As := [.int x1]) (b := a0) (ci := 7) (q0 := (RX7, TX7, 8)) K E (fun _ e1 => M_X7_roomAt K.2.2.2.2.2.2.1 _ _ _ _ e1) h dX7_cut_2 ce_X7_roomAt cv_X7_roomAt lk_RX7_144 rfl rfl rfl rfl (by decide) rfl rfl (Nat.le_of_ble_eq_true rfl) rfl rfl (by decide) (by decide) (fun a21 h21 h => ?_)
  refine r_astore (pc := 5) (lv' := [some (va_rf (some a0)), some (.int x1), some (.int x2), some (.int x3), some (va_rf (some a21)), none]) K dX7_cut_5 (by decide) rfl ?_
  refine r_aload (pc := 7) K dX7_cut_7 rfl ?_
  refine r_iload_n (pc := 9) K dX7_cut_9 rfl ?_
  refine s_ref (pc := 10) (st := []) (As := [va_rf (some a21), .int x2]) K E (fun _ e1 => M_X7_wallAt K.2.2.2.2.2.2.1 _ _ _ _ e1) h dX7_cut_10 ce_X7_wallAt cs_X7_wallAt lk_RX7_174 rfl rfl (by decide) rfl rfl (Nat.le_of_ble_eq_true rfl) rfl rfl (by decide) (by decide) (fun a22 h22 h => ?_)
  refine r_astore (pc := 13) (lv' := [some (va_rf (some a0)), some (.int x1), some (.int x2), some (.int x3), some (va_rf (some a21)), some (va_rf (some a22))]) K dX7_cut_13 (by decide) rfl ?_
  refine r_iload_n (pc := 15) K dX7_cut_15 rfl ?_
  refine r_if_lt (pc := 16) (tgt := 38) K dX7_cut_16 (by decide) h (fun h _ => ?_) (fun h _ => ?_)
  · exact r_weak (lv2 := [none, none, none, none, none, none]) trivial (r_widen (by decide) (by decide) (B_X7_cut_b38 K hr E   _ h))
  · refine r_iload_n (pc := 19) K dX7_cut_19 rfl ?_
    refine r_aload (pc := 20) K dX7_cut_20 rfl ?_
    refine r_getI (pc := 22) K dX7_cut_22 fk_RX7_184 h (fun x23 h => ?_)
    refine r_icmp_ge (pc := 25) (tgt := 38) K dX7_cut_25 (by decide) h (fun h _ => ?_) (fun h _ => ?_)
    · exact r_weak (lv2 := [none, none, none, none, none, none]) trivial (r_widen (by decide) (by decide) (B_X7_cut_b38 K hr E   _ h))
    · refine r_iload_n (pc := 28) K dX7_cut_28 rfl ?_
      refine r_aload (pc := 29) K dX7_cut_29 rfl ?_
      refine r_getR (pc := 31) K dX7_cut_31 fk_RX7_225 h (fun r24 h => ?_)
      refine nn_k h (fun a25 hz hq25 => ?_)
      subst hz
      have h := hq25
      refine r_alen (pc := 34) K dX7_cut_34 h (fun x26 h => ?_)
      refine r_icmp_lt (pc := 35) (tgt := 48) K dX7_cut_35 (by decide) h (fun h _ => ?_) (fun h _ => ?_)
      · refine r_aload (pc := 48) K dX7_cut_48 rfl ?_
        refine v_int (pc := 50) (st := []) (As := []) (b := a21) (ci := 5) (q0 := (RX5, TX5, 5)) K E (fun _ e1 => M_X5_isHung K.2.2.2.2.2.2.1 _ _ _ e1) h dX7_cut_50 ce_X5_isHung cv_X5_isHung lk_RX7_148 rfl rfl rfl rfl (by decide) rfl rfl (Nat.le_of_ble_eq_true rfl) rfl rfl (by decide) (by decide) (fun x27 h27 h => ?_)
        refine r_if_eq (pc := 53) (tgt := 66) K dX7_cut_53 (by decide) h (fun h _ => ?_) (fun h _ => ?_)
        · refine r_iconst (pc := 66) (v := (-1)) K dX7_cut_66 (by decide) ?_
          exact r_ireturn (pc := 67) K hr dX7_cut_67 h (by decide) (by decide)
        · refine r_aload (pc := 56) K dX7_cut_56 rfl ?_
          refine r_getR (pc := 58) K dX7_cut_58 fk_RX7_225 h (fun r28 h => ?_)
          refine r_iload_n (pc := 61) K dX7_cut_61 rfl ?_
          refine nn_k h (fun a29 hz hq29 => ?_)
          subst hz
          have h := hq29
          refine r_iald (pc := 62) K dX7_cut_62 h (fun x30 h => ?_)
          refine r_goto (pc := 63) (tgt := 67) K dX7_cut_63 (by decide) ?_
          exact r_ireturn (pc := 67) K hr dX7_cut_67 h (by decide) (by decide)
      · exact r_weak (lv2 := [none, none, none, none, none, none]) trivial (r_widen (by decide) (by decide) (B_X7_cut_b38 K hr E   _ h))
def rm_X7_seen : Room := { frames := 7, cells := 3, slots := 18, locals := 112 }
set_option maxRecDepth 100000 in
set_option maxHeartbeats 4000000 in
theorem B_X7_seen_b73 (K : Cx strL D cA h0 p l s m args meth c cX7_seen RX7 9) (hr : meth.sig.returnType = (some .int)) (E : ∀ x ∈ c.exceptionTable.toList, False) {res : (Int32 ⊕ String) × hpT} : ∀ (hp : hpT), F_X7_seen_b73   hp = some res → G D cA h0 p l e rm_X7_seen s m args below meth c 9 (vx_MQ below (QI D cA h0 res) (XE D cA h0 res) args s 3 18 (Af h0)) 2 12 hp 73 [none, none, none, none, none, none, none, none, none] [] := by
  intro  hp h
  unfold F_X7_seen_b73 at h
  exact r_throw (pc := 73) K E dX7_seen_73 dX7_seen_76 dX7_seen_77 dX7_seen_79 dX7_seen_82 th_RX7_70_74 st_RX7_244 h (Nat.le_of_ble_eq_true rfl) (Nat.le_of_ble_eq_true rfl) (by decide) (by decide) (by decide) (by decide)
set_option maxRecDepth 100000 in
set_option maxHeartbeats 4000000 in
theorem M_X7_seen {D : va_G} {cA : Nat → ClassId} {h0 : Nat} {l : Launch} (hl : l.stackTraces = false) (a0 : Nat) (x1 : Int32) (x2 : Int32) (x3 : Int32) (x4 : Int32) (hp : hpT) (res : (Int32 ⊕ String) × hpT) (h : F_X7_seen a0 x1 x2 x3 x4 hp = some res) : vx_Met l yX7_seen (wsm yX7_seen cX7_seen 9 (some .int)) rm_X7_seen (va_Pc [va_rf (some a0), .int x1, .int x2, .int x3, .int x4] (Pre strL D cA h0 hp)) (QI D cA h0 res) (XE D cA h0 res) 3 18 (Af h0) := by
  unfold F_X7_seen at h
  refine g_entry (by decide +kernel) hl (cat_c rfl (cat_c rfl (cat_c rfl (cat_c rfl (cat_c rfl (cat_n)))))) (Nat.le_of_ble_eq_true rfl) (lv := [some (va_rf (some a0)), some (.int x1), some (.int x2), some (.int x3), some (.int x4), none, none, none, none]) rfl ?_
  intro p e s m args below meth c K hr E hn
  have K : Cx strL D cA h0 p l s m args meth c cX7_seen RX7 9 := K
  refine r_aload_n (pc := 0) K dX7_seen_0 rfl ?_
  refine r_iload_n (pc := 1) K dX7_seen_1 rfl ?_
  refine v_ref (pc := 2) (st := []) (As := [.int x1]) (b := a0) (ci := 7) (q0 := (RX7, TX7, 8)) K E (fun _ e1 => M_X7_roomAt K.2.2.2.2.2.2.1 _ _ _ _ e1) h dX7_seen_2 ce_X7_roomAt cv_X7_roomAt lk_RX7_144 rfl rfl rfl rfl (by decide) rfl rfl (Nat.le_of_ble_eq_true rfl) rfl rfl (by decide) (by decide) (fun a21 h21 h => ?_)
  refine r_astore (pc := 5) (lv' := [some (va_rf (some a0)), some (.int x1), some (.int x2), some (.int x3), some (.int x4), some (va_rf (some a21)), none, none, none]) K dX7_seen_5 (by decide) rfl ?_
  refine r_aload (pc := 7) K dX7_seen_7 rfl ?_
  refine r_iload_n (pc := 9) K dX7_seen_9 rfl ?_
  refine s_ref (pc := 10) (st := []) (As := [va_rf (some a21), .int x2]) K E (fun _ e1 => M_X7_wallAt K.2.2.2.2.2.2.1 _ _ _ _ e1) h dX7_seen_10 ce_X7_wallAt cs_X7_wallAt lk_RX7_174 rfl rfl (by decide) rfl rfl (Nat.le_of_ble_eq_true rfl) rfl rfl (by decide) (by decide) (fun a22 h22 h => ?_)
  refine r_astore (pc := 13) (lv' := [some (va_rf (some a0)), some (.int x1), some (.int x2), some (.int x3), some (.int x4), some (va_rf (some a21)), some (va_rf (some a22)), none, none]) K dX7_seen_13 (by decide) rfl ?_
  refine r_aload (pc := 15) K dX7_seen_15 rfl ?_
  refine r_getR (pc := 17) K dX7_seen_17 fk_RX7_178 h (fun r23 h => ?_)
  refine r_astore (pc := 20) (lv' := [some (va_rf (some a0)), some (.int x1), some (.int x2), some (.int x3), some (.int x4), some (va_rf (some a21)), some (va_rf (some a22)), some (va_rf r23), none]) K dX7_seen_20 (by decide) rfl ?_
  refine r_aload (pc := 22) K dX7_seen_22 rfl ?_
  refine r_ifnonnull (pc := 24) (tgt := 29) K dX7_seen_24 (by decide) h (fun hz hq24 => ?_) (fun a24 hz hq24 => ?_)
  · subst hz
    have h := hq24
    refine r_iconst (pc := 27) (v := (-1)) K dX7_seen_27 (by decide) ?_
    exact r_ireturn (pc := 28) K hr dX7_seen_28 h (by decide) (by decide)
  · subst hz
    have h := hq24
    refine r_aload (pc := 29) K dX7_seen_29 rfl ?_
    refine r_getR (pc := 31) K dX7_seen_31 fk_RX7_231 h (fun r25 h => ?_)
    refine nn_k h (fun a26 hz hq26 => ?_)
    subst hz
    have h := hq26
    refine r_getR (pc := 34) K dX7_seen_34 fk_RX7_235 h (fun r27 h => ?_)
    refine r_astore (pc := 37) (lv' := [some (va_rf (some a0)), some (.int x1), some (.int x2), some (.int x3), some (.int x4), some (va_rf (some a21)), some (va_rf (some a22)), some (va_rf (some a24)), some (va_rf r27)]) K dX7_seen_37 (by decide) rfl ?_
    refine r_iload_n (pc := 39) K dX7_seen_39 rfl ?_
    refine r_if_lt (pc := 40) (tgt := 73) K dX7_seen_40 (by decide) h (fun h _ => ?_) (fun h _ => ?_)
    · exact r_weak (lv2 := [none, none, none, none, none, none, none, none, none]) trivial (r_widen (by decide) (by decide) (B_X7_seen_b73 K hr E   _ h))
    · refine r_iload_n (pc := 43) K dX7_seen_43 rfl ?_
      refine r_aload (pc := 44) K dX7_seen_44 rfl ?_
      refine r_getI (pc := 46) K dX7_seen_46 fk_RX7_184 h (fun x28 h => ?_)
      refine r_aload (pc := 49) K dX7_seen_49 rfl ?_
      refine nn_k h (fun a29 hz hq29 => ?_)
      subst hz
      have h := hq29
      refine r_getI (pc := 51) K dX7_seen_51 fk_RX7_238 h (fun x30 h => ?_)
      refine r_imul (pc := 54) K dX7_seen_54 ?_
      refine r_icmp_ge (pc := 55) (tgt := 73) K dX7_seen_55 (by decide) h (fun h _ => ?_) (fun h _ => ?_)
      · exact r_weak (lv2 := [none, none, none, none, none, none, none, none, none]) trivial (r_widen (by decide) (by decide) (B_X7_seen_b73 K hr E   _ h))
      · refine r_iload (pc := 58) K dX7_seen_58 rfl ?_
        refine r_if_lt (pc := 60) (tgt := 73) K dX7_seen_60 (by decide) h (fun h _ => ?_) (fun h _ => ?_)
        · exact r_weak (lv2 := [none, none, none, none, none, none, none, none, none]) trivial (r_widen (by decide) (by decide) (B_X7_seen_b73 K hr E   _ h))
        · refine r_iload (pc := 63) K dX7_seen_63 rfl ?_
          refine r_aload (pc := 65) K dX7_seen_65 rfl ?_
          refine r_getI (pc := 67) K dX7_seen_67 fk_RX7_241 h (fun x31 h => ?_)
          refine r_icmp_lt (pc := 70) (tgt := 83) K dX7_seen_70 (by decide) h (fun h _ => ?_) (fun h _ => ?_)
          · refine r_aload (pc := 83) K dX7_seen_83 rfl ?_
            refine r_iload_n (pc := 85) K dX7_seen_85 rfl ?_
            refine r_aload (pc := 86) K dX7_seen_86 rfl ?_
            refine r_getR (pc := 88) K dX7_seen_88 fk_RX7_191 h (fun r32 h => ?_)
            refine nn_k h (fun a33 hz hq33 => ?_)
            subst hz
            have h := hq33
            refine r_getI (pc := 91) K dX7_seen_91 fk_RX7_217 h (fun x34 h => ?_)
            refine r_iload (pc := 94) K dX7_seen_94 rfl ?_
            refine r_iadd (pc := 96) K dX7_seen_96 ?_
            refine v_int (pc := 97) (st := []) (As := [.int x3, .int (x34 + x4)]) (b := a29) (ci := 0) (q0 := (RX0, TX0, 3)) K E (fun _ e1 => M_X0_colourAt K.2.2.2.2.2.2.1 _ _ _ _ _ e1) h dX7_seen_97 ce_X0_colourAt cv_X0_colourAt lk_RX7_75 rfl rfl rfl rfl (by decide) rfl rfl (Nat.le_of_ble_eq_true rfl) rfl rfl (by decide) (by decide) (fun x35 h35 h => ?_)
            exact r_ireturn (pc := 100) K hr dX7_seen_100 h (by decide) (by decide)
          · exact r_weak (lv2 := [none, none, none, none, none, none, none, none, none]) trivial (r_widen (by decide) (by decide) (B_X7_seen_b73 K hr E   _ h))
def rm_X7_lost : Room := { frames := 0, cells := 0, slots := 0, locals := 0 }
set_option maxRecDepth 100000 in
set_option maxHeartbeats 4000000 in
theorem M_X7_lost {D : va_G} {cA : Nat → ClassId} {h0 : Nat} {l : Launch} (hl : l.stackTraces = false) (a0 : Nat) (hp : hpT) (res : (Int32 ⊕ String) × hpT) (h : F_X7_lost a0 hp = some res) : vx_Met l yX7_lost (wsm yX7_lost cX7_lost 1 (some .int)) rm_X7_lost (va_Pc [va_rf (some a0)] (Pre strL D cA h0 hp)) (QI D cA h0 res) (XE D cA h0 res) 0 0 (Af h0) := by
  unfold F_X7_lost at h
  refine g_entry (by decide +kernel) hl (cat_c rfl (cat_n)) (Nat.le_of_ble_eq_true rfl) (lv := [some (va_rf (some a0))]) rfl ?_
  intro p e s m args below meth c K hr E hn
  have K : Cx strL D cA h0 p l s m args meth c cX7_lost RX7 1 := K
  refine r_aload_n (pc := 0) K dX7_lost_0 rfl ?_
  refine r_getI (pc := 1) K dX7_lost_1 fk_RX7_246 h (fun x21 h => ?_)
  exact r_ireturn (pc := 4) K hr dX7_lost_4 h (by decide) (by decide)
end
