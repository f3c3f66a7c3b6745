/-! the machine does what the functions say: X8_cell X8_modulo X8_colourAt X8_colour X8_repeat X8_holds X8_repeatAnew X8_roller X8_lot X8_lotOf X8_rowsOfLot X8_isRoom X8_isHung X8_wall X8_give X8_cutAll X8_keep -/
section
variable {D : va_G} {cA : Nat → ClassId} {h0 : Nat} {p : Program} {l : Launch} {e : Env} {s : State} {m : MethodId} {args : Array Value} {below : List Frame} {meth : Method} {c : Code}
def rm_X8_cell : Room := { frames := 0, cells := 0, slots := 0, locals := 0 }
set_option maxRecDepth 100000 in
set_option maxHeartbeats 4000000 in
theorem B_X8_cell_b284 (K : Cx strL D cA h0 p l s m args meth c cX8_cell RX8 12) (hr : meth.sig.returnType = (some .int)) (E : ∀ x ∈ c.exceptionTable.toList, False) {res : (Int32 ⊕ String) × hpT} : ∀ (a0 : Nat) (x1 : Int32) (x10 : Int32) (x11 : Int32) (hp : hpT), F_X8_cell_b284  a0 x1 x10 x11 hp = some res → G D cA h0 p l e rm_X8_cell s m args below meth c 12 (vx_MQ below (QI D cA h0 res) (XE D cA h0 res) args s 0 0 (Af h0)) 0 0 hp 284 [some (va_rf (some a0)), some (.int x1), none, none, none, none, none, none, none, none, some (.int x10), some (.int x11)] [] := by
  intro a0 x1 x10 x11 hp h
  unfold F_X8_cell_b284 at h
  refine r_aload_n (pc := 284) K dX8_cell_284 rfl ?_
  refine r_getR (pc := 285) K dX8_cell_285 fk_RX8_19 h (fun r21 h => ?_)
  refine r_bipush (pc := 288) (v := 25) K dX8_cell_288 (by decide) ?_
  refine r_iload_n (pc := 290) K dX8_cell_290 rfl ?_
  refine r_imul (pc := 291) K dX8_cell_291 ?_
  refine r_iconst (pc := 292) (v := 5) K dX8_cell_292 (by decide) ?_
  refine r_iload (pc := 293) K dX8_cell_293 rfl ?_
  refine r_imul (pc := 295) K dX8_cell_295 ?_
  refine r_iadd (pc := 296) K dX8_cell_296 ?_
  refine r_iload (pc := 297) K dX8_cell_297 rfl ?_
  refine r_iadd (pc := 299) K dX8_cell_299 ?_
  refine nn_k h (fun a22 hz hq22 => ?_)
  subst hz
  have h := hq22
  refine r_iald (pc := 300) K dX8_cell_300 h (fun x23 h => ?_)
  exact r_ireturn (pc := 301) K hr dX8_cell_301 h (by decide) (by decide)
set_option maxRecDepth 100000 in
set_option maxHeartbeats 4000000 in
theorem B_X8_cell_b282 (K : Cx strL D cA h0 p l s m args meth c cX8_cell RX8 12) (hr : meth.sig.returnType = (some .int)) (E : ∀ x ∈ c.exceptionTable.toList, False) {res : (Int32 ⊕ String) × hpT} : ∀ (a0 : Nat) (x1 : Int32) (x10 : Int32) (xs0 : Int32) (hp : hpT), F_X8_cell_b282  a0 x1 x10 xs0 hp = some res → G D cA h0 p l e rm_X8_cell s m args below meth c 12 (vx_MQ below (QI D cA h0 res) (XE D cA h0 res) args s 0 0 (Af h0)) 0 0 hp 282 [some (va_rf (some a0)), some (.int x1), none, none, none, none, none, none, none, none, some (.int x10), none] [.int xs0] := by
  intro a0 x1 x10 xs0 hp h
  unfold F_X8_cell_b282 at h
  refine r_istore (pc := 282) (lv' := [some (va_rf (some a0)), some (.int x1), none, none, none, none, none, none, none, none, some (.int x10), some (.int xs0)]) K dX8_cell_282 (by decide) rfl ?_
  exact r_weak (lv2 := [some (va_rf (some a0)), some (.int x1), none, none, none, none, none, none, none, none, some (.int x10), some (.int xs0)]) ⟨rfl, rfl, rfl, rfl, trivial⟩ ((B_X8_cell_b284 K hr E  _ _ _ _ _ h))
set_option maxRecDepth 100000 in
set_option maxHeartbeats 4000000 in
theorem B_X8_cell_b265 (K : Cx strL D cA h0 p l s m args meth c cX8_cell RX8 12) (hr : meth.sig.returnType = (some .int)) (E : ∀ x ∈ c.exceptionTable.toList, False) {res : (Int32 ⊕ String) × hpT} : ∀ (a0 : Nat) (x1 : Int32) (x4 : Int32) (x6 : Int32) (x8 : Int32) (x10 : Int32) (hp : hpT), F_X8_cell_b265  a0 x1 x4 x6 x8 x10 hp = some res → G D cA h0 p l e rm_X8_cell s m args below meth c 12 (vx_MQ below (QI D cA h0 res) (XE D cA h0 res) args s 0 0 (Af h0)) 0 0 hp 265 [some (va_rf (some a0)), some (.int x1), none, none, some (.int x4), none, some (.int x6), none, some (.int x8), none, some (.int x10), none] [] := by
  intro a0 x1 x4 x6 x8 x10 hp h
  unfold F_X8_cell_b265 at h
  refine r_iload (pc := 265) K dX8_cell_265 rfl ?_
  refine r_if_eq (pc := 267) (tgt := 280) K dX8_cell_267 (by decide) h (fun h _ => ?_) (fun h _ => ?_)
  · refine r_iload (pc := 280) K dX8_cell_280 rfl ?_
    exact r_weak (lv2 := [some (va_rf (some a0)), some (.int x1), none, none, none, none, none, none, none, none, some (.int x10), none]) ⟨rfl, rfl, rfl, trivial⟩ ((B_X8_cell_b282 K hr E  _ _ _ _ _ h))
  · refine r_iload (pc := 270) K dX8_cell_270 rfl ?_
    refine r_iconst (pc := 272) (v := 1) K dX8_cell_272 (by decide) ?_
    refine r_isub (pc := 273) K dX8_cell_273 ?_
    refine r_iload (pc := 274) K dX8_cell_274 rfl ?_
    refine r_isub (pc := 276) K dX8_cell_276 ?_
    refine r_goto (pc := 277) (tgt := 282) K dX8_cell_277 (by decide) ?_
    exact r_weak (lv2 := [some (va_rf (some a0)), some (.int x1), none, none, none, none, none, none, none, none, some (.int x10), none]) ⟨rfl, rfl, rfl, trivial⟩ ((B_X8_cell_b282 K hr E  _ _ _ _ _ h))
set_option maxRecDepth 100000 in
set_option maxHeartbeats 4000000 in
theorem B_X8_cell_b243 (K : Cx strL D cA h0 p l s m args meth c cX8_cell RX8 12) (hr : meth.sig.returnType = (some .int)) (E : ∀ x ∈ c.exceptionTable.toList, False) {res : (Int32 ⊕ String) × hpT} : ∀ (a0 : Nat) (x1 : Int32) (x4 : Int32) (x6 : Int32) (x7 : Int32) (x8 : Int32) (x9 : Int32) (xs0 : Int32) (hp : hpT), F_X8_cell_b243  a0 x1 x4 x6 x7 x8 x9 xs0 hp = some res → G D cA h0 p l e rm_X8_cell s m args below meth c 12 (vx_MQ below (QI D cA h0 res) (XE D cA h0 res) args s 0 0 (Af h0)) 0 0 hp 243 [some (va_rf (some a0)), some (.int x1), none, none, some (.int x4), none, some (.int x6), some (.int x7), some (.int x8), some (.int x9), none, none] [.int xs0] := by
  intro a0 x1 x4 x6 x7 x8 x9 xs0 hp h
  unfold F_X8_cell_b243 at h
  refine r_istore (pc := 243) (lv' := [some (va_rf (some a0)), some (.int x1), none, none, some (.int x4), none, some (.int x6), some (.int x7), some (.int x8), some (.int x9), some (.int xs0), none]) K dX8_cell_243 (by decide) rfl ?_
  refine r_iload (pc := 245) K dX8_cell_245 rfl ?_
  refine r_if_eq (pc := 247) (tgt := 265) K dX8_cell_247 (by decide) h (fun h _ => ?_) (fun h _ => ?_)
  · exact r_weak (lv2 := [some (va_rf (some a0)), some (.int x1), none, none, some (.int x4), none, some (.int x6), none, some (.int x8), none, some (.int xs0), none]) ⟨rfl, rfl, rfl, rfl, rfl, rfl, trivial⟩ ((B_X8_cell_b265 K hr E  _ _ _ _ _ _ _ h))
  · refine r_iload (pc := 250) K dX8_cell_250 rfl ?_
    refine r_if_eq (pc := 252) (tgt := 265) K dX8_cell_252 (by decide) h (fun h _ => ?_) (fun h _ => ?_)
    · exact r_weak (lv2 := [some (va_rf (some a0)), some (.int x1), none, none, some (.int x4), none, some (.int x6), none, some (.int x8), none, some (.int xs0), none]) ⟨rfl, rfl, rfl, rfl, rfl, rfl, trivial⟩ ((B_X8_cell_b265 K hr E  _ _ _ _ _ _ _ h))
    · refine r_iload (pc := 255) K dX8_cell_255 rfl ?_
      refine r_iconst (pc := 257) (v := 1) K dX8_cell_257 (by decide) ?_
      refine r_isub (pc := 258) K dX8_cell_258 ?_
      refine r_iload (pc := 259) K dX8_cell_259 rfl ?_
      refine r_isub (pc := 261) K dX8_cell_261 ?_
      refine r_goto (pc := 262) (tgt := 282) K dX8_cell_262 (by decide) ?_
      exact r_weak (lv2 := [some (va_rf (some a0)), some (.int x1), none, none, none, none, none, none, none, none, some (.int xs0), none]) ⟨rfl, rfl, rfl, trivial⟩ ((B_X8_cell_b282 K hr E  _ _ _ _ _ h))
set_option maxRecDepth 100000 in
set_option maxHeartbeats 4000000 in
theorem B_X8_cell_b226 (K : Cx strL D cA h0 p l s m args meth c cX8_cell RX8 12) (hr : meth.sig.returnType = (some .int)) (E : ∀ x ∈ c.exceptionTable.toList, False) {res : (Int32 ⊕ String) × hpT} : ∀ (a0 : Nat) (x1 : Int32) (x4 : Int32) (x6 : Int32) (x7 : Int32) (x8 : Int32) (x9 : Int32) (hp : hpT), F_X8_cell_b226  a0 x1 x4 x6 x7 x8 x9 hp = some res → G D cA h0 p l e rm_X8_cell s m args below meth c 12 (vx_MQ below (QI D cA h0 res) (XE D cA h0 res) args s 0 0 (Af h0)) 0 0 hp 226 [some (va_rf (some a0)), some (.int x1), none, none, some (.int x4), none, some (.int x6), some (.int x7), some (.int x8), some (.int x9), none, none] [] := by
  intro a0 x1 x4 x6 x7 x8 x9 hp h
  unfold F_X8_cell_b226 at h
  refine r_iload (pc := 226) K dX8_cell_226 rfl ?_
  refine r_if_eq (pc := 228) (tgt := 236) K dX8_cell_228 (by decide) h (fun h _ => ?_) (fun h _ => ?_)
  · refine r_iload (pc := 236) K dX8_cell_236 rfl ?_
    refine r_iconst (pc := 238) (v := 1) K dX8_cell_238 (by decide) ?_
    refine r_isub (pc := 239) K dX8_cell_239 ?_
    refine r_iload (pc := 240) K dX8_cell_240 rfl ?_
    refine r_isub (pc := 242) K dX8_cell_242 ?_
    exact r_weak (lv2 := [some (va_rf (some a0)), some (.int x1), none, none, some (.int x4), none, some (.int x6), some (.int x7), some (.int x8), some (.int x9), none, none]) ⟨rfl, rfl, rfl, rfl, rfl, rfl, rfl, trivial⟩ ((B_X8_cell_b243 K hr E  _ _ _ _ _ _ _ _ _ h))
  · refine r_iload (pc := 231) K dX8_cell_231 rfl ?_
    refine r_goto (pc := 233) (tgt := 243) K dX8_cell_233 (by decide) ?_
    exact r_weak (lv2 := [some (va_rf (some a0)), some (.int x1), none, none, some (.int x4), none, some (.int x6), some (.int x7), some (.int x8), some (.int x9), none, none]) ⟨rfl, rfl, rfl, rfl, rfl, rfl, rfl, trivial⟩ ((B_X8_cell_b243 K hr E  _ _ _ _ _ _ _ _ _ h))
set_option maxRecDepth 100000 in
set_option maxHeartbeats 4000000 in
theorem B_X8_cell_b206 (K : Cx strL D cA h0 p l s m args meth c cX8_cell RX8 12) (hr : meth.sig.returnType = (some .int)) (E : ∀ x ∈ c.exceptionTable.toList, False) {res : (Int32 ⊕ String) × hpT} : ∀ (a0 : Nat) (x1 : Int32) (x4 : Int32) (x6 : Int32) (x7 : Int32) (x8 : Int32) (x9 : Int32) (hp : hpT), F_X8_cell_b206  a0 x1 x4 x6 x7 x8 x9 hp = some res → G D cA h0 p l e rm_X8_cell s m args below meth c 12 (vx_MQ below (QI D cA h0 res) (XE D cA h0 res) args s 0 0 (Af h0)) 0 0 hp 206 [some (va_rf (some a0)), some (.int x1), none, none, some (.int x4), none, some (.int x6), some (.int x7), some (.int x8), some (.int x9), none, none] [] := by
  intro a0 x1 x4 x6 x7 x8 x9 hp h
  unfold F_X8_cell_b206 at h
  refine r_iload (pc := 206) K dX8_cell_206 rfl ?_
  refine r_if_eq (pc := 208) (tgt := 226) K dX8_cell_208 (by decide) h (fun h _ => ?_) (fun h _ => ?_)
  · exact r_weak (lv2 := [some (va_rf (some a0)), some (.int x1), none, none, some (.int x4), none, some (.int x6), some (.int x7), some (.int x8), some (.int x9), none, none]) ⟨rfl, rfl, rfl, rfl, rfl, rfl, rfl, trivial⟩ ((B_X8_cell_b226 K hr E  _ _ _ _ _ _ _ _ h))
  · refine r_iload (pc := 211) K dX8_cell_211 rfl ?_
    refine r_if_eq (pc := 213) (tgt := 226) K dX8_cell_213 (by decide) h (fun h _ => ?_) (fun h _ => ?_)
    · exact r_weak (lv2 := [some (va_rf (some a0)), some (.int x1), none, none, some (.int x4), none, some (.int x6), some (.int x7), some (.int x8), some (.int x9), none, none]) ⟨rfl, rfl, rfl, rfl, rfl, rfl, rfl, trivial⟩ ((B_X8_cell_b226 K hr E  _ _ _ _ _ _ _ _ h))
    · refine r_iload (pc := 216) K dX8_cell_216 rfl ?_
      refine r_iconst (pc := 218) (v := 1) K dX8_cell_218 (by decide) ?_
      refine r_isub (pc := 219) K dX8_cell_219 ?_
      refine r_iload (pc := 220) K dX8_cell_220 rfl ?_
      refine r_isub (pc := 222) K dX8_cell_222 ?_
      refine r_goto (pc := 223) (tgt := 243) K dX8_cell_223 (by decide) ?_
      exact r_weak (lv2 := [some (va_rf (some a0)), some (.int x1), none, none, some (.int x4), none, some (.int x6), some (.int x7), some (.int x8), some (.int x9), none, none]) ⟨rfl, rfl, rfl, rfl, rfl, rfl, rfl, trivial⟩ ((B_X8_cell_b243 K hr E  _ _ _ _ _ _ _ _ _ h))
set_option maxRecDepth 100000 in
set_option maxHeartbeats 4000000 in
theorem B_X8_cell_b186 (K : Cx strL D cA h0 p l s m args meth c cX8_cell RX8 12) (hr : meth.sig.returnType = (some .int)) (E : ∀ x ∈ c.exceptionTable.toList, False) {res : (Int32 ⊕ String) × hpT} : ∀ (a0 : Nat) (x1 : Int32) (x4 : Int32) (x6 : Int32) (x7 : Int32) (x8 : Int32) (x9 : Int32) (x10 : Int32) (x11 : Int32) (hp : hpT), F_X8_cell_b186  a0 x1 x4 x6 x7 x8 x9 x10 x11 hp = some res → G D cA h0 p l e rm_X8_cell s m args below meth c 12 (vx_MQ below (QI D cA h0 res) (XE D cA h0 res) args s 0 0 (Af h0)) 0 0 hp 186 [some (va_rf (some a0)), some (.int x1), none, none, some (.int x4), none, some (.int x6), some (.int x7), some (.int x8), some (.int x9), some (.int x10), some (.int x11)] [] := by
  intro a0 x1 x4 x6 x7 x8 x9 x10 x11 hp h
  unfold F_X8_cell_b186 at h
  refine r_aload_n (pc := 186) K dX8_cell_186 rfl ?_
  refine r_getR (pc := 187) K dX8_cell_187 fk_RX8_16 h (fun r24 h => ?_)
  refine r_iload_n (pc := 190) K dX8_cell_190 rfl ?_
  refine nn_k h (fun a25 hz hq25 => ?_)
  subst hz
  have h := hq25
  refine r_iald (pc := 191) K dX8_cell_191 h (fun x26 h => ?_)
  refine r_iconst (pc := 192) (v := 5) K dX8_cell_192 (by decide) ?_
  refine r_icmp_ne (pc := 193) (tgt := 284) K dX8_cell_193 (by decide) h (fun h _ => ?_) (fun h _ => ?_)
  · exact r_weak (lv2 := [some (va_rf (some a0)), some (.int x1), none, none, none, none, none, none, none, none, some (.int x10), some (.int x11)]) ⟨rfl, rfl, rfl, rfl, trivial⟩ ((B_X8_cell_b284 K hr E  _ _ _ _ _ h))
  · refine r_iload (pc := 196) K dX8_cell_196 rfl ?_
    refine r_if_ne (pc := 198) (tgt := 206) K dX8_cell_198 (by decide) h (fun h _ => ?_) (fun h _ => ?_)
    · exact r_weak (lv2 := [some (va_rf (some a0)), some (.int x1), none, none, some (.int x4), none, some (.int x6), some (.int x7), some (.int x8), some (.int x9), none, none]) ⟨rfl, rfl, rfl, rfl, rfl, rfl, rfl, trivial⟩ ((B_X8_cell_b206 K hr E  _ _ _ _ _ _ _ _ h))
    · refine r_iload (pc := 201) K dX8_cell_201 rfl ?_
      refine r_if_eq (pc := 203) (tgt := 284) K dX8_cell_203 (by decide) h (fun h _ => ?_) (fun h _ => ?_)
      · exact r_weak (lv2 := [some (va_rf (some a0)), some (.int x1), none, none, none, none, none, none, none, none, some (.int x10), some (.int x11)]) ⟨rfl, rfl, rfl, rfl, trivial⟩ ((B_X8_cell_b284 K hr E  _ _ _ _ _ h))
      · exact r_weak (lv2 := [some (va_rf (some a0)), some (.int x1), none, none, some (.int x4), none, some (.int x6), some (.int x7), some (.int x8), some (.int x9), none, none]) ⟨rfl, rfl, rfl, rfl, rfl, rfl, rfl, trivial⟩ ((B_X8_cell_b206 K hr E  _ _ _ _ _ _ _ _ h))
set_option maxRecDepth 100000 in
set_option maxHeartbeats 4000000 in
theorem B_X8_cell_b177 (K : Cx strL D cA h0 p l s m args meth c cX8_cell RX8 12) (hr : meth.sig.returnType = (some .int)) (E : ∀ x ∈ c.exceptionTable.toList, False) {res : (Int32 ⊕ String) × hpT} : ∀ (a0 : Nat) (x1 : Int32) (x4 : Int32) (x5 : Int32) (x6 : Int32) (x7 : Int32) (x8 : Int32) (x9 : Int32) (x10 : Int32) (hp : hpT), F_X8_cell_b177  a0 x1 x4 x5 x6 x7 x8 x9 x10 hp = some res → G D cA h0 p l e rm_X8_cell s m args below meth c 12 (vx_MQ below (QI D cA h0 res) (XE D cA h0 res) args s 0 0 (Af h0)) 0 0 hp 177 [some (va_rf (some a0)), some (.int x1), none, none, some (.int x4), some (.int x5), some (.int x6), some (.int x7), some (.int x8), some (.int x9), some (.int x10), none] [] := by
  intro a0 x1 x4 x5 x6 x7 x8 x9 x10 hp h
  unfold F_X8_cell_b177 at h
  refine r_iload (pc := 177) K dX8_cell_177 rfl ?_
  refine r_iconst (pc := 179) (v := 1) K dX8_cell_179 (by decide) ?_
  refine r_isub (pc := 180) K dX8_cell_180 ?_
  refine r_iload (pc := 181) K dX8_cell_181 rfl ?_
  refine r_isub (pc := 183) K dX8_cell_183 ?_
  refine r_istore (pc := 184) (lv' := [some (va_rf (some a0)), some (.int x1), none, none, some (.int x4), some (.int x5), some (.int x6), some (.int x7), some (.int x8), some (.int x9), some (.int x10), some (.int ((x5 - 1) - x9))]) K dX8_cell_184 (by decide) rfl ?_
  exact r_weak (lv2 := [some (va_rf (some a0)), some (.int x1), none, none, some (.int x4), none, some (.int x6), some (.int x7), some (.int x8), some (.int x9), some (.int x10), some (.int ((x5 - 1) - x9))]) ⟨rfl, rfl, rfl, rfl, rfl, rfl, rfl, rfl, rfl, trivial⟩ ((B_X8_cell_b186 K hr E  _ _ _ _ _ _ _ _ _ _ h))
set_option maxRecDepth 100000 in
set_option maxHeartbeats 4000000 in
theorem B_X8_cell_b162 (K : Cx strL D cA h0 p l s m args meth c cX8_cell RX8 12) (hr : meth.sig.returnType = (some .int)) (E : ∀ x ∈ c.exceptionTable.toList, False) {res : (Int32 ⊕ String) × hpT} : ∀ (a0 : Nat) (x1 : Int32) (x4 : Int32) (x5 : Int32) (x6 : Int32) (x7 : Int32) (x8 : Int32) (x9 : Int32) (x10 : Int32) (x11 : Int32) (hp : hpT), F_X8_cell_b162  a0 x1 x4 x5 x6 x7 x8 x9 x10 x11 hp = some res → G D cA h0 p l e rm_X8_cell s m args below meth c 12 (vx_MQ below (QI D cA h0 res) (XE D cA h0 res) args s 0 0 (Af h0)) 0 0 hp 162 [some (va_rf (some a0)), some (.int x1), none, none, some (.int x4), some (.int x5), some (.int x6), some (.int x7), some (.int x8), some (.int x9), some (.int x10), some (.int x11)] [] := by
  intro a0 x1 x4 x5 x6 x7 x8 x9 x10 x11 hp h
  unfold F_X8_cell_b162 at h
  refine r_aload_n (pc := 162) K dX8_cell_162 rfl ?_
  refine r_getR (pc := 163) K dX8_cell_163 fk_RX8_16 h (fun r27 h => ?_)
  refine r_iload_n (pc := 166) K dX8_cell_166 rfl ?_
  refine nn_k h (fun a28 hz hq28 => ?_)
  subst hz
  have h := hq28
  refine r_iald (pc := 167) K dX8_cell_167 h (fun x29 h => ?_)
  refine r_iconst (pc := 168) (v := 4) K dX8_cell_168 (by decide) ?_
  refine r_icmp_ne (pc := 169) (tgt := 186) K dX8_cell_169 (by decide) h (fun h _ => ?_) (fun h _ => ?_)
  · exact r_weak (lv2 := [some (va_rf (some a0)), some (.int x1), none, none, some (.int x4), none, some (.int x6), some (.int x7), some (.int x8), some (.int x9), some (.int x10), some (.int x11)]) ⟨rfl, rfl, rfl, rfl, rfl, rfl, rfl, rfl, rfl, trivial⟩ ((B_X8_cell_b186 K hr E  _ _ _ _ _ _ _ _ _ _ h))
  · refine r_iload (pc := 172) K dX8_cell_172 rfl ?_
    refine r_if_eq (pc := 174) (tgt := 186) K dX8_cell_174 (by decide) h (fun h _ => ?_) (fun h _ => ?_)
    · exact r_weak (lv2 := [some (va_rf (some a0)), some (.int x1), none, none, some (.int x4), none, some (.int x6), some (.int x7), some (.int x8), some (.int x9), some (.int x10), some (.int x11)]) ⟨rfl, rfl, rfl, rfl, rfl, rfl, rfl, rfl, rfl, trivial⟩ ((B_X8_cell_b186 K hr E  _ _ _ _ _ _ _ _ _ _ h))
    · exact r_weak (lv2 := [some (va_rf (some a0)), some (.int x1), none, none, some (.int x4), some (.int x5), some (.int x6), some (.int x7), some (.int x8), some (.int x9), some (.int x10), none]) ⟨rfl, rfl, rfl, rfl, rfl, rfl, rfl, rfl, rfl, trivial⟩ ((B_X8_cell_b177 K hr E  _ _ _ _ _ _ _ _ _ _ h))
set_option maxRecDepth 100000 in
set_option maxHeartbeats 4000000 in
theorem B_X8_cell_b147 (K : Cx strL D cA h0 p l s m args meth c cX8_cell RX8 12) (hr : meth.sig.returnType = (some .int)) (E : ∀ x ∈ c.exceptionTable.toList, False) {res : (Int32 ⊕ String) × hpT} : ∀ (a0 : Nat) (x1 : Int32) (x4 : Int32) (x5 : Int32) (x6 : Int32) (x7 : Int32) (x8 : Int32) (x9 : Int32) (x10 : Int32) (x11 : Int32) (hp : hpT), F_X8_cell_b147  a0 x1 x4 x5 x6 x7 x8 x9 x10 x11 hp = some res → G D cA h0 p l e rm_X8_cell s m args below meth c 12 (vx_MQ below (QI D cA h0 res) (XE D cA h0 res) args s 0 0 (Af h0)) 0 0 hp 147 [some (va_rf (some a0)), some (.int x1), none, none, some (.int x4), some (.int x5), some (.int x6), some (.int x7), some (.int x8), some (.int x9), some (.int x10), some (.int x11)] [] := by
  intro a0 x1 x4 x5 x6 x7 x8 x9 x10 x11 hp h
  unfold F_X8_cell_b147 at h
  refine r_aload_n (pc := 147) K dX8_cell_147 rfl ?_
  refine r_getR (pc := 148) K dX8_cell_148 fk_RX8_16 h (fun r30 h => ?_)
  refine r_iload_n (pc := 151) K dX8_cell_151 rfl ?_
  refine nn_k h (fun a31 hz hq31 => ?_)
  subst hz
  have h := hq31
  refine r_iald (pc := 152) K dX8_cell_152 h (fun x32 h => ?_)
  refine r_iconst (pc := 153) (v := 3) K dX8_cell_153 (by decide) ?_
  refine r_icmp_ne (pc := 154) (tgt := 162) K dX8_cell_154 (by decide) h (fun h _ => ?_) (fun h _ => ?_)
  · exact r_weak (lv2 := [some (va_rf (some a0)), some (.int x1), none, none, some (.int x4), some (.int x5), some (.int x6), some (.int x7), some (.int x8), some (.int x9), some (.int x10), some (.int x11)]) ⟨rfl, rfl, rfl, rfl, rfl, rfl, rfl, rfl, rfl, rfl, trivial⟩ ((B_X8_cell_b162 K hr E  _ _ _ _ _ _ _ _ _ _ _ h))
  · refine r_iload (pc := 157) K dX8_cell_157 rfl ?_
    refine r_if_ne (pc := 159) (tgt := 177) K dX8_cell_159 (by decide) h (fun h _ => ?_) (fun h _ => ?_)
    · exact r_weak (lv2 := [some (va_rf (some a0)), some (.int x1), none, none, some (.int x4), some (.int x5), some (.int x6), some (.int x7), some (.int x8), some (.int x9), some (.int x10), none]) ⟨rfl, rfl, rfl, rfl, rfl, rfl, rfl, rfl, rfl, trivial⟩ ((B_X8_cell_b177 K hr E  _ _ _ _ _ _ _ _ _ _ h))
    · exact r_weak (lv2 := [some (va_rf (some a0)), some (.int x1), none, none, some (.int x4), some (.int x5), some (.int x6), some (.int x7), some (.int x8), some (.int x9), some (.int x10), some (.int x11)]) ⟨rfl, rfl, rfl, rfl, rfl, rfl, rfl, rfl, rfl, rfl, trivial⟩ ((B_X8_cell_b162 K hr E  _ _ _ _ _ _ _ _ _ _ _ h))
set_option maxRecDepth 100000 in
set_option maxHeartbeats 4000000 in
theorem B_X8_cell_b133 (K : Cx strL D cA h0 p l s m args meth c cX8_cell RX8 12) (hr : meth.sig.returnType = (some .int)) (E : ∀ x ∈ c.exceptionTable.toList, False) {res : (Int32 ⊕ String) × hpT} : ∀ (a0 : Nat) (x1 : Int32) (x4 : Int32) (x5 : Int32) (x6 : Int32) (x7 : Int32) (x8 : Int32) (x9 : Int32) (x10 : Int32) (x11 : Int32) (hp : hpT), F_X8_cell_b133  a0 x1 x4 x5 x6 x7 x8 x9 x10 x11 hp = some res → G D cA h0 p l e rm_X8_cell s m args below meth c 12 (vx_MQ below (QI D cA h0 res) (XE D cA h0 res) args s 0 0 (Af h0)) 0 0 hp 133 [some (va_rf (some a0)), some (.int x1), none, none, some (.int x4), some (.int x5), some (.int x6), some (.int x7), some (.int x8), some (.int x9), some (.int x10), some (.int x11)] [] := by
  intro a0 x1 x4 x5 x6 x7 x8 x9 x10 x11 hp h
  unfold F_X8_cell_b133 at h
  refine r_iload (pc := 133) K dX8_cell_133 rfl ?_
  refine r_if_eq (pc := 135) (tgt := 147) K dX8_cell_135 (by decide) h (fun h _ => ?_) (fun h _ => ?_)
  · exact r_weak (lv2 := [some (va_rf (some a0)), some (.int x1), none, none, some (.int x4), some (.int x5), some (.int x6), some (.int x7), some (.int x8), some (.int x9), some (.int x10), some (.int x11)]) ⟨rfl, rfl, rfl, rfl, rfl, rfl, rfl, rfl, rfl, rfl, trivial⟩ ((B_X8_cell_b147 K hr E  _ _ _ _ _ _ _ _ _ _ _ h))
  · refine r_iload (pc := 138) K dX8_cell_138 rfl ?_
    refine r_iconst (pc := 140) (v := 1) K dX8_cell_140 (by decide) ?_
    refine r_isub (pc := 141) K dX8_cell_141 ?_
    refine r_iload (pc := 142) K dX8_cell_142 rfl ?_
    refine r_isub (pc := 144) K dX8_cell_144 ?_
    refine r_istore (pc := 145) (lv' := [some (va_rf (some a0)), some (.int x1), none, none, some (.int x4), some (.int x5), some (.int x6), some (.int x7), some (.int x8), some (.int x9), some (.int ((x4 - 1) - x8)), some (.int x11)]) K dX8_cell_145 (by decide) rfl ?_
    exact r_weak (lv2 := [some (va_rf (some a0)), some (.int x1), none, none, some (.int x4), some (.int x5), some (.int x6), some (.int x7), some (.int x8), some (.int x9), some (.int ((x4 - 1) - x8)), some (.int x11)]) ⟨rfl, rfl, rfl, rfl, rfl, rfl, rfl, rfl, rfl, rfl, trivial⟩ ((B_X8_cell_b147 K hr E  _ _ _ _ _ _ _ _ _ _ _ h))
set_option maxRecDepth 100000 in
set_option maxHeartbeats 4000000 in
theorem B_X8_cell_b113 (K : Cx strL D cA h0 p l s m args meth c cX8_cell RX8 12) (hr : meth.sig.returnType = (some .int)) (E : ∀ x ∈ c.exceptionTable.toList, False) {res : (Int32 ⊕ String) × hpT} : ∀ (a0 : Nat) (x1 : Int32) (x4 : Int32) (x5 : Int32) (x6 : Int32) (x7 : Int32) (x8 : Int32) (x9 : Int32) (x10 : Int32) (x11 : Int32) (hp : hpT), F_X8_cell_b113  a0 x1 x4 x5 x6 x7 x8 x9 x10 x11 hp = some res → G D cA h0 p l e rm_X8_cell s m args below meth c 12 (vx_MQ below (QI D cA h0 res) (XE D cA h0 res) args s 0 0 (Af h0)) 0 0 hp 113 [some (va_rf (some a0)), some (.int x1), none, none, some (.int x4), some (.int x5), some (.int x6), some (.int x7), some (.int x8), some (.int x9), some (.int x10), some (.int x11)] [] := by
  intro a0 x1 x4 x5 x6 x7 x8 x9 x10 x11 hp h
  unfold F_X8_cell_b113 at h
  refine r_aload_n (pc := 113) K dX8_cell_113 rfl ?_
  refine r_getR (pc := 114) K dX8_cell_114 fk_RX8_16 h (fun r33 h => ?_)
  refine r_iload_n (pc := 117) K dX8_cell_117 rfl ?_
  refine nn_k h (fun a34 hz hq34 => ?_)
  subst hz
  have h := hq34
  refine r_iald (pc := 118) K dX8_cell_118 h (fun x35 h => ?_)
  refine r_iconst (pc := 119) (v := 2) K dX8_cell_119 (by decide) ?_
  refine r_icmp_eq (pc := 120) (tgt := 133) K dX8_cell_120 (by decide) h (fun h _ => ?_) (fun h _ => ?_)
  · exact r_weak (lv2 := [some (va_rf (some a0)), some (.int x1), none, none, some (.int x4), some (.int x5), some (.int x6), some (.int x7), some (.int x8), some (.int x9), some (.int x10), some (.int x11)]) ⟨rfl, rfl, rfl, rfl, rfl, rfl, rfl, rfl, rfl, rfl, trivial⟩ ((B_X8_cell_b133 K hr E  _ _ _ _ _ _ _ _ _ _ _ h))
  · refine r_aload_n (pc := 123) K dX8_cell_123 rfl ?_
    refine r_getR (pc := 124) K dX8_cell_124 fk_RX8_16 h (fun r36 h => ?_)
    refine r_iload_n (pc := 127) K dX8_cell_127 rfl ?_
    refine nn_k h (fun a37 hz hq37 => ?_)
    subst hz
    have h := hq37
    refine r_iald (pc := 128) K dX8_cell_128 h (fun x38 h => ?_)
    refine r_iconst (pc := 129) (v := 4) K dX8_cell_129 (by decide) ?_
    refine r_icmp_ne (pc := 130) (tgt := 147) K dX8_cell_130 (by decide) h (fun h _ => ?_) (fun h _ => ?_)
    · exact r_weak (lv2 := [some (va_rf (some a0)), some (.int x1), none, none, some (.int x4), some (.int x5), some (.int x6), some (.int x7), some (.int x8), some (.int x9), some (.int x10), some (.int x11)]) ⟨rfl, rfl, rfl, rfl, rfl, rfl, rfl, rfl, rfl, rfl, trivial⟩ ((B_X8_cell_b147 K hr E  _ _ _ _ _ _ _ _ _ _ _ h))
    · exact r_weak (lv2 := [some (va_rf (some a0)), some (.int x1), none, none, some (.int x4), some (.int x5), some (.int x6), some (.int x7), some (.int x8), some (.int x9), some (.int x10), some (.int x11)]) ⟨rfl, rfl, rfl, rfl, rfl, rfl, rfl, rfl, rfl, rfl, trivial⟩ ((B_X8_cell_b133 K hr E  _ _ _ _ _ _ _ _ _ _ _ h))
set_option maxRecDepth 100000 in
set_option maxHeartbeats 4000000 in
theorem B_X8_cell_b70 (K : Cx strL D cA h0 p l s m args meth c cX8_cell RX8 12) (hr : meth.sig.returnType = (some .int)) (E : ∀ x ∈ c.exceptionTable.toList, False) {res : (Int32 ⊕ String) × hpT} : ∀ (a0 : Nat) (x1 : Int32) (x4 : Int32) (x5 : Int32) (x6 : Int32) (x7 : Int32) (x8 : Int32) (xs0 : Int32) (hp : hpT), F_X8_cell_b70  a0 x1 x4 x5 x6 x7 x8 xs0 hp = some res → G D cA h0 p l e rm_X8_cell s m args below meth c 12 (vx_MQ below (QI D cA h0 res) (XE D cA h0 res) args s 0 0 (Af h0)) 0 0 hp 70 [some (va_rf (some a0)), some (.int x1), none, none, some (.int x4), some (.int x5), some (.int x6), some (.int x7), some (.int x8), none, none, none] [.int xs0] := by
  intro a0 x1 x4 x5 x6 x7 x8 xs0 hp h
  unfold F_X8_cell_b70 at h
  refine r_istore (pc := 70) (lv' := [some (va_rf (some a0)), some (.int x1), none, none, some (.int x4), some (.int x5), some (.int x6), some (.int x7), some (.int x8), some (.int xs0), none, none]) K dX8_cell_70 (by decide) rfl ?_
  refine r_iload (pc := 72) K dX8_cell_72 rfl ?_
  refine r_istore (pc := 74) (lv' := [some (va_rf (some a0)), some (.int x1), none, none, some (.int x4), some (.int x5), some (.int x6), some (.int x7), some (.int x8), some (.int xs0), some (.int x8), none]) K dX8_cell_74 (by decide) rfl ?_
  refine r_iload (pc := 76) K dX8_cell_76 rfl ?_
  refine r_istore (pc := 78) (lv' := [some (va_rf (some a0)), some (.int x1), none, none, some (.int x4), some (.int x5), some (.int x6), some (.int x7), some (.int x8), some (.int xs0), some (.int x8), some (.int xs0)]) K dX8_cell_78 (by decide) rfl ?_
  refine r_aload_n (pc := 80) K dX8_cell_80 rfl ?_
  refine r_getR (pc := 81) K dX8_cell_81 fk_RX8_16 h (fun r39 h => ?_)
  refine r_iload_n (pc := 84) K dX8_cell_84 rfl ?_
  refine nn_k h (fun a40 hz hq40 => ?_)
  subst hz
  have h := hq40
  refine r_iald (pc := 85) K dX8_cell_85 h (fun x41 h => ?_)
  refine r_iconst (pc := 86) (v := 1) K dX8_cell_86 (by decide) ?_
  refine r_icmp_ne (pc := 87) (tgt := 113) K dX8_cell_87 (by decide) h (fun h _ => ?_) (fun h _ => ?_)
  · exact r_weak (lv2 := [some (va_rf (some a0)), some (.int x1), none, none, some (.int x4), some (.int x5), some (.int x6), some (.int x7), some (.int x8), some (.int xs0), some (.int x8), some (.int xs0)]) ⟨rfl, rfl, rfl, rfl, rfl, rfl, rfl, rfl, rfl, rfl, trivial⟩ ((B_X8_cell_b113 K hr E  _ _ _ _ _ _ _ _ _ _ _ h))
  · refine r_iload (pc := 90) K dX8_cell_90 rfl ?_
    refine r_if_eq (pc := 92) (tgt := 113) K dX8_cell_92 (by decide) h (fun h _ => ?_) (fun h _ => ?_)
    · exact r_weak (lv2 := [some (va_rf (some a0)), some (.int x1), none, none, some (.int x4), some (.int x5), some (.int x6), some (.int x7), some (.int x8), some (.int xs0), some (.int x8), some (.int xs0)]) ⟨rfl, rfl, rfl, rfl, rfl, rfl, rfl, rfl, rfl, rfl, trivial⟩ ((B_X8_cell_b113 K hr E  _ _ _ _ _ _ _ _ _ _ _ h))
    · refine r_iload (pc := 95) K dX8_cell_95 rfl ?_
      refine r_iconst (pc := 97) (v := 1) K dX8_cell_97 (by decide) ?_
      refine r_isub (pc := 98) K dX8_cell_98 ?_
      refine r_iload (pc := 99) K dX8_cell_99 rfl ?_
      refine r_isub (pc := 101) K dX8_cell_101 ?_
      refine r_istore (pc := 102) (lv' := [some (va_rf (some a0)), some (.int x1), none, none, some (.int x4), some (.int x5), some (.int x6), some (.int x7), some (.int x8), some (.int xs0), some (.int ((x4 - 1) - x8)), some (.int xs0)]) K dX8_cell_102 (by decide) rfl ?_
      refine r_iload (pc := 104) K dX8_cell_104 rfl ?_
      refine r_iconst (pc := 106) (v := 1) K dX8_cell_106 (by decide) ?_
      refine r_isub (pc := 107) K dX8_cell_107 ?_
      refine r_iload (pc := 108) K dX8_cell_108 rfl ?_
      refine r_isub (pc := 110) K dX8_cell_110 ?_
      refine r_istore (pc := 111) (lv' := [some (va_rf (some a0)), some (.int x1), none, none, some (.int x4), some (.int x5), some (.int x6), some (.int x7), some (.int x8), some (.int xs0), some (.int ((x4 - 1) - x8)), some (.int ((x5 - 1) - xs0))]) K dX8_cell_111 (by decide) rfl ?_
      exact r_weak (lv2 := [some (va_rf (some a0)), some (.int x1), none, none, some (.int x4), some (.int x5), some (.int x6), some (.int x7), some (.int x8), some (.int xs0), some (.int ((x4 - 1) - x8)), some (.int ((x5 - 1) - xs0))]) ⟨rfl, rfl, rfl, rfl, rfl, rfl, rfl, rfl, rfl, rfl, trivial⟩ ((B_X8_cell_b113 K hr E  _ _ _ _ _ _ _ _ _ _ _ h))
set_option maxRecDepth 100000 in
set_option maxHeartbeats 4000000 in
theorem B_X8_cell_b55 (K : Cx strL D cA h0 p l s m args meth c cX8_cell RX8 12) (hr : meth.sig.returnType = (some .int)) (E : ∀ x ∈ c.exceptionTable.toList, False) {res : (Int32 ⊕ String) × hpT} : ∀ (a0 : Nat) (x1 : Int32) (x3 : Int32) (x4 : Int32) (x5 : Int32) (x6 : Int32) (x7 : Int32) (xs0 : Int32) (hp : hpT), F_X8_cell_b55  a0 x1 x3 x4 x5 x6 x7 xs0 hp = some res → G D cA h0 p l e rm_X8_cell s m args below meth c 12 (vx_MQ below (QI D cA h0 res) (XE D cA h0 res) args s 0 0 (Af h0)) 0 0 hp 55 [some (va_rf (some a0)), some (.int x1), none, some (.int x3), some (.int x4), some (.int x5), some (.int x6), some (.int x7), none, none, none, none] [.int xs0] := by
  intro a0 x1 x3 x4 x5 x6 x7 xs0 hp h
  unfold F_X8_cell_b55 at h
  refine r_istore (pc := 55) (lv' := [some (va_rf (some a0)), some (.int x1), none, some (.int x3), some (.int x4), some (.int x5), some (.int x6), some (.int x7), some (.int xs0), none, none, none]) K dX8_cell_55 (by decide) rfl ?_
  refine r_iload (pc := 57) K dX8_cell_57 rfl ?_
  refine r_if_eq (pc := 59) (tgt := 69) K dX8_cell_59 (by decide) h (fun h _ => ?_) (fun h _ => ?_)
  · refine r_iload_n (pc := 69) K dX8_cell_69 rfl ?_
    exact r_weak (lv2 := [some (va_rf (some a0)), some (.int x1), none, none, some (.int x4), some (.int x5), some (.int x6), some (.int x7), some (.int xs0), none, none, none]) ⟨rfl, rfl, rfl, rfl, rfl, rfl, rfl, trivial⟩ ((B_X8_cell_b70 K hr E  _ _ _ _ _ _ _ _ _ h))
  · refine r_iload_n (pc := 62) K dX8_cell_62 rfl ?_
    refine r_iload (pc := 63) K dX8_cell_63 rfl ?_
    refine r_isub (pc := 65) K dX8_cell_65 ?_
    refine r_goto (pc := 66) (tgt := 70) K dX8_cell_66 (by decide) ?_
    exact r_weak (lv2 := [some (va_rf (some a0)), some (.int x1), none, none, some (.int x4), some (.int x5), some (.int x6), some (.int x7), some (.int xs0), none, none, none]) ⟨rfl, rfl, rfl, rfl, rfl, rfl, rfl, trivial⟩ ((B_X8_cell_b70 K hr E  _ _ _ _ _ _ _ _ _ h))
set_option maxRecDepth 100000 in
set_option maxHeartbeats 4000000 in
theorem B_X8_cell_b40 (K : Cx strL D cA h0 p l s m args meth c cX8_cell RX8 12) (hr : meth.sig.returnType = (some .int)) (E : ∀ x ∈ c.exceptionTable.toList, False) {res : (Int32 ⊕ String) × hpT} : ∀ (a0 : Nat) (x1 : Int32) (x2 : Int32) (x3 : Int32) (x4 : Int32) (x5 : Int32) (x6 : Int32) (xs0 : Int32) (hp : hpT), F_X8_cell_b40  a0 x1 x2 x3 x4 x5 x6 xs0 hp = some res → G D cA h0 p l e rm_X8_cell s m args below meth c 12 (vx_MQ below (QI D cA h0 res) (XE D cA h0 res) args s 0 0 (Af h0)) 0 0 hp 40 [some (va_rf (some a0)), some (.int x1), some (.int x2), some (.int x3), some (.int x4), some (.int x5), some (.int x6), none, none, none, none, none] [.int xs0] := by
  intro a0 x1 x2 x3 x4 x5 x6 xs0 hp h
  unfold F_X8_cell_b40 at h
  refine r_istore (pc := 40) (lv' := [some (va_rf (some a0)), some (.int x1), some (.int x2), some (.int x3), some (.int x4), some (.int x5), some (.int x6), some (.int xs0), none, none, none, none]) K dX8_cell_40 (by decide) rfl ?_
  refine r_iload (pc := 42) K dX8_cell_42 rfl ?_
  refine r_if_eq (pc := 44) (tgt := 54) K dX8_cell_44 (by decide) h (fun h _ => ?_) (fun h _ => ?_)
  · refine r_iload_n (pc := 54) K dX8_cell_54 rfl ?_
    exact r_weak (lv2 := [some (va_rf (some a0)), some (.int x1), none, some (.int x3), some (.int x4), some (.int x5), some (.int x6), some (.int xs0), none, none, none, none]) ⟨rfl, rfl, rfl, rfl, rfl, rfl, rfl, trivial⟩ ((B_X8_cell_b55 K hr E  _ _ _ _ _ _ _ _ _ h))
  · refine r_iload_n (pc := 47) K dX8_cell_47 rfl ?_
    refine r_iload (pc := 48) K dX8_cell_48 rfl ?_
    refine r_isub (pc := 50) K dX8_cell_50 ?_
    refine r_goto (pc := 51) (tgt := 55) K dX8_cell_51 (by decide) ?_
    exact r_weak (lv2 := [some (va_rf (some a0)), some (.int x1), none, some (.int x3), some (.int x4), some (.int x5), some (.int x6), some (.int xs0), none, none, none, none]) ⟨rfl, rfl, rfl, rfl, rfl, rfl, rfl, trivial⟩ ((B_X8_cell_b55 K hr E  _ _ _ _ _ _ _ _ _ h))
set_option maxRecDepth 100000 in
set_option maxHeartbeats 4000000 in
theorem B_X8_cell_b27 (K : Cx strL D cA h0 p l s m args meth c cX8_cell RX8 12) (hr : meth.sig.returnType = (some .int)) (E : ∀ x ∈ c.exceptionTable.toList, False) {res : (Int32 ⊕ String) × hpT} : ∀ (a0 : Nat) (x1 : Int32) (x2 : Int32) (x3 : Int32) (x4 : Int32) (x5 : Int32) (xs0 : Int32) (hp : hpT), F_X8_cell_b27  a0 x1 x2 x3 x4 x5 xs0 hp = some res → G D cA h0 p l e rm_X8_cell s m args below meth c 12 (vx_MQ below (QI D cA h0 res) (XE D cA h0 res) args s 0 0 (Af h0)) 0 0 hp 27 [some (va_rf (some a0)), some (.int x1), some (.int x2), some (.int x3), some (.int x4), some (.int x5), none, none, none, none, none, none] [.int xs0] := by
  intro a0 x1 x2 x3 x4 x5 xs0 hp h
  unfold F_X8_cell_b27 at h
  refine r_istore (pc := 27) (lv' := [some (va_rf (some a0)), some (.int x1), some (.int x2), some (.int x3), some (.int x4), some (.int x5), some (.int xs0), none, none, none, none, none]) K dX8_cell_27 (by decide) rfl ?_
  refine r_iload_n (pc := 29) K dX8_cell_29 rfl ?_
  refine r_iload (pc := 30) K dX8_cell_30 rfl ?_
  refine r_icmp_lt (pc := 32) (tgt := 39) K dX8_cell_32 (by decide) h (fun h _ => ?_) (fun h _ => ?_)
  · refine r_iconst (pc := 39) (v := 0) K dX8_cell_39 (by decide) ?_
    exact r_weak (lv2 := [some (va_rf (some a0)), some (.int x1), some (.int x2), some (.int x3), some (.int x4), some (.int x5), some (.int xs0), none, none, none, none, none]) ⟨rfl, rfl, rfl, rfl, rfl, rfl, rfl, trivial⟩ ((B_X8_cell_b40 K hr E  _ _ _ _ _ _ _ _ _ h))
  · refine r_iconst (pc := 35) (v := 1) K dX8_cell_35 (by decide) ?_
    refine r_goto (pc := 36) (tgt := 40) K dX8_cell_36 (by decide) ?_
    exact r_weak (lv2 := [some (va_rf (some a0)), some (.int x1), some (.int x2), some (.int x3), some (.int x4), some (.int x5), some (.int xs0), none, none, none, none, none]) ⟨rfl, rfl, rfl, rfl, rfl, rfl, rfl, trivial⟩ ((B_X8_cell_b40 K hr E  _ _ _ _ _ _ _ _ _ h))
set_option maxRecDepth 100000 in
set_option maxHeartbeats 4000000 in
theorem M_X8_cell {D : va_G} {cA : Nat → ClassId} {h0 : Nat} {l : Launch} (hl : l.stackTraces = false) (a0 : Nat) (x1 : Int32) (x2 : Int32) (x3 : Int32) (hp : hpT) (res : (Int32 ⊕ String) × hpT) (h : F_X8_cell a0 x1 x2 x3 hp = some res) : vx_Met l yX8_cell (wsm yX8_cell cX8_cell 12 (some .int)) rm_X8_cell (va_Pc [va_rf (some a0), .int x1, .int x2, .int x3] (Pre strL D cA h0 hp)) (QI D cA h0 res) (XE D cA h0 res) 0 0 (Af h0) := by
  unfold F_X8_cell at h
  refine g_entry (by decide +kernel) hl (cat_c rfl (cat_c rfl (cat_c rfl (cat_c rfl (cat_n))))) (Nat.le_of_ble_eq_true rfl) (lv := [some (va_rf (some a0)), some (.int x1), some (.int x2), some (.int x3), none, none, none, none, none, none, none, none]) rfl ?_
  intro p e s m args below meth c K hr E hn
  have K : Cx strL D cA h0 p l s m args meth c cX8_cell RX8 12 := K
  refine r_aload_n (pc := 0) K dX8_cell_0 rfl ?_
  refine r_getR (pc := 1) K dX8_cell_1 fk_RX8_7 h (fun r42 h => ?_)
  refine r_iload_n (pc := 4) K dX8_cell_4 rfl ?_
  refine nn_k h (fun a43 hz hq43 => ?_)
  subst hz
  have h := hq43
  refine r_iald (pc := 5) K dX8_cell_5 h (fun x44 h => ?_)
  refine r_istore (pc := 6) (lv' := [some (va_rf (some a0)), some (.int x1), some (.int x2), some (.int x3), some (.int x44), none, none, none, none, none, none, none]) K dX8_cell_6 (by decide) rfl ?_
  refine r_aload_n (pc := 8) K dX8_cell_8 rfl ?_
  refine r_getR (pc := 9) K dX8_cell_9 fk_RX8_13 h (fun r45 h => ?_)
  refine r_iload_n (pc := 12) K dX8_cell_12 rfl ?_
  refine nn_k h (fun a46 hz hq46 => ?_)
  subst hz
  have h := hq46
  refine r_iald (pc := 13) K dX8_cell_13 h (fun x47 h => ?_)
  refine r_istore (pc := 14) (lv' := [some (va_rf (some a0)), some (.int x1), some (.int x2), some (.int x3), some (.int x44), some (.int x47), none, none, none, none, none, none]) K dX8_cell_14 (by decide) rfl ?_
  refine r_iload_n (pc := 16) K dX8_cell_16 rfl ?_
  refine r_iload (pc := 17) K dX8_cell_17 rfl ?_
  refine r_icmp_lt (pc := 19) (tgt := 26) K dX8_cell_19 (by decide) h (fun h _ => ?_) (fun h _ => ?_)
  · refine r_iconst (pc := 26) (v := 0) K dX8_cell_26 (by decide) ?_
    exact r_weak (lv2 := [some (va_rf (some a0)), some (.int x1), some (.int x2), some (.int x3), some (.int x44), some (.int x47), none, none, none, none, none, none]) ⟨rfl, rfl, rfl, rfl, rfl, rfl, trivial⟩ ((B_X8_cell_b27 K hr E  _ _ _ _ _ _ _ _ h))
  · refine r_iconst (pc := 22) (v := 1) K dX8_cell_22 (by decide) ?_
    refine r_goto (pc := 23) (tgt := 27) K dX8_cell_23 (by decide) ?_
    exact r_weak (lv2 := [some (va_rf (some a0)), some (.int x1), some (.int x2), some (.int x3), some (.int x44), some (.int x47), none, none, none, none, none, none]) ⟨rfl, rfl, rfl, rfl, rfl, rfl, trivial⟩ ((B_X8_cell_b27 K hr E  _ _ _ _ _ _ _ _ h))
def rm_X8_modulo : Room := { frames := 0, cells := 0, slots := 0, locals := 0 }
set_option maxRecDepth 100000 in
set_option maxHeartbeats 4000000 in
theorem M_X8_modulo {D : va_G} {cA : Nat → ClassId} {h0 : Nat} {l : Launch} (hl : l.stackTraces = false) (x0 : Int32) (x1 : Int32) (hp : hpT) (res : (Int32 ⊕ String) × hpT) (h : F_X8_modulo x0 x1 hp = some res) : vx_Met l yX8_modulo (wsm yX8_modulo cX8_modulo 3 (some .int)) rm_X8_modulo (va_Pc [.int x0, .int x1] (Pre strL D cA h0 hp)) (QI D cA h0 res) (XE D cA h0 res) 0 0 (Af h0) := by
  unfold F_X8_modulo at h
  refine g_entry (by decide +kernel) hl (cat_c rfl (cat_c rfl (cat_n))) (Nat.le_of_ble_eq_true rfl) (lv := [some (.int x0), some (.int x1), none]) rfl ?_
  intro p e s m args below meth c K hr E hn
  have K : Cx strL D cA h0 p l s m args meth c cX8_modulo RX8 3 := K
  refine r_iload_n (pc := 0) K dX8_modulo_0 rfl ?_
  refine r_iload_n (pc := 1) K dX8_modulo_1 rfl ?_
  refine r_irem (pc := 2) K dX8_modulo_2 h (fun h => ?_)
  refine r_istore_n (pc := 3) (lv' := [some (.int x0), some (.int x1), some (.int (irm x0 x1))]) K dX8_modulo_3 (by decide) rfl ?_
  refine r_iload_n (pc := 4) K dX8_modulo_4 rfl ?_
  refine r_if_ge (pc := 5) (tgt := 14) K dX8_modulo_5 (by decide) h (fun h _ => ?_) (fun h _ => ?_)
  · refine r_iload_n (pc := 14) K dX8_modulo_14 rfl ?_
    exact r_ireturn (pc := 15) K hr dX8_modulo_15 h (by decide) (by decide)
  · refine r_iload_n (pc := 8) K dX8_modulo_8 rfl ?_
    refine r_iload_n (pc := 9) K dX8_modulo_9 rfl ?_
    refine r_iadd (pc := 10) K dX8_modulo_10 ?_
    refine r_goto (pc := 11) (tgt := 15) K dX8_modulo_11 (by decide) ?_
    exact r_ireturn (pc := 15) K hr dX8_modulo_15 h (by decide) (by decide)
def rm_X8_colourAt : Room := { frames := 1, cells := 0, slots := 0, locals := 31 }
set_option maxRecDepth 100000 in
set_option maxHeartbeats 4000000 in
theorem M_X8_colourAt {D : va_G} {cA : Nat → ClassId} {h0 : Nat} {l : Launch} (hl : l.stackTraces = false) (a0 : Nat) (x1 : Int32) (x2 : Int32) (x3 : Int32) (hp : hpT) (res : (Int32 ⊕ String) × hpT) (h : F_X8_colourAt a0 x1 x2 x3 hp = some res) : vx_Met l yX8_colourAt (wsm yX8_colourAt cX8_colourAt 4 (some .int)) rm_X8_colourAt (va_Pc [va_rf (some a0), .int x1, .int x2, .int x3] (Pre strL D cA h0 hp)) (QI D cA h0 res) (XE D cA h0 res) 0 0 (Af h0) := by
  unfold F_X8_colourAt at h
  refine g_entry (by decide +kernel) hl (cat_c rfl (cat_c rfl (cat_c rfl (cat_c rfl (cat_n))))) (Nat.le_of_ble_eq_true rfl) (lv := [some (va_rf (some a0)), some (.int x1), some (.int x2), some (.int x3)]) rfl ?_
  intro p e s m args below meth c K hr E hn
  have K : Cx strL D cA h0 p l s m args meth c cX8_colourAt RX8 4 := K
  refine r_aload_n (pc := 0) K dX8_colourAt_0 rfl ?_
  refine r_iload_n (pc := 1) K dX8_colourAt_1 rfl ?_
  refine r_iload_n (pc := 2) K dX8_colourAt_2 rfl ?_
  refine r_aload_n (pc := 3) K dX8_colourAt_3 rfl ?_
  refine r_iload_n (pc := 4) K dX8_colourAt_4 rfl ?_
  refine v_int (pc := 5) (st := [.int x2, .int x1, va_rf (some a0)]) (As := [.int x1]) (b := a0) (ci := 8) (q0 := (RX8, TX8, 29)) K E (fun _ e1 => M_X8_columns K.2.2.2.2.2.2.1 _ _ _ _ e1) h dX8_colourAt_5 ce_X8_columns cv_X8_columns lk_RX8_91 rfl rfl rfl rfl (by decide) rfl rfl (Nat.le_of_ble_eq_true rfl) rfl rfl (by decide) (by decide) (fun x21 h21 h => ?_)
  refine s_int (pc := 8) (st := [.int x1, va_rf (some a0)]) (As := [.int x2, .int x21]) K E (fun _ e1 => M_X8_modulo K.2.2.2.2.2.2.1 _ _ _ _ e1) h dX8_colourAt_8 ce_X8_modulo cs_X8_modulo lk_RX8_95 rfl rfl (by decide) rfl rfl (Nat.le_of_ble_eq_true rfl) rfl rfl (by decide) (by decide) (fun x22 h22 h => ?_)
  refine r_iload_n (pc := 11) K dX8_colourAt_11 rfl ?_
  refine r_aload_n (pc := 12) K dX8_colourAt_12 rfl ?_
  refine r_iload_n (pc := 13) K dX8_colourAt_13 rfl ?_
  refine v_int (pc := 14) (st := [.int x3, .int x22, .int x1, va_rf (some a0)]) (As := [.int x1]) (b := a0) (ci := 8) (q0 := (RX8, TX8, 29)) K E (fun _ e1 => M_X8_rows K.2.2.2.2.2.2.1 _ _ _ _ e1) h dX8_colourAt_14 ce_X8_rows cv_X8_rows lk_RX8_99 rfl rfl rfl rfl (by decide) rfl rfl (Nat.le_of_ble_eq_true rfl) rfl rfl (by decide) (by decide) (fun x23 h23 h => ?_)
  refine s_int (pc := 17) (st := [.int x22, .int x1, va_rf (some a0)]) (As := [.int x3, .int x23]) K E (fun _ e1 => M_X8_modulo K.2.2.2.2.2.2.1 _ _ _ _ e1) h dX8_colourAt_17 ce_X8_modulo cs_X8_modulo lk_RX8_95 rfl rfl (by decide) rfl rfl (Nat.le_of_ble_eq_true rfl) rfl rfl (by decide) (by decide) (fun x24 h24 h => ?_)
  refine v_int (pc := 20) (st := []) (As := [.int x1, .int x22, .int x24]) (b := a0) (ci := 8) (q0 := (RX8, TX8, 29)) K E (fun _ e1 => M_X8_cell K.2.2.2.2.2.2.1 _ _ _ _ _ _ e1) h dX8_colourAt_20 ce_X8_cell cv_X8_cell lk_RX8_102 rfl rfl rfl rfl (by decide) rfl rfl (Nat.le_of_ble_eq_true rfl) rfl rfl (by decide) (by decide) (fun x25 h25 h => ?_)
  exact r_ireturn (pc := 23) K hr dX8_colourAt_23 h (by decide) (by decide)
def rm_X8_colour : Room := { frames := 2, cells := 0, slots := 0, locals := 54 }
set_option maxRecDepth 100000 in
set_option maxHeartbeats 4000000 in
theorem B_X8_colour_b14 (K : Cx strL D cA h0 p l s m args meth c cX8_colour RX8 4) (hr : meth.sig.returnType = (some .int)) (E : ∀ x ∈ c.exceptionTable.toList, False) {res : (Int32 ⊕ String) × hpT} : ∀ (a0 : Nat) (x1 : Int32) (x2 : Int32) (x3 : Int32) (xs0 : Int32) (as1 : Nat) (hp : hpT), F_X8_colour_b14  a0 x1 x2 x3 xs0 as1 hp = some res → G D cA h0 p l e rm_X8_colour s m args below meth c 4 (vx_MQ below (QI D cA h0 res) (XE D cA h0 res) args s 0 0 (Af h0)) 0 0 hp 14 [some (va_rf (some a0)), some (.int x1), some (.int x2), some (.int x3)] [.int xs0, va_rf (some as1)] := by
  intro a0 x1 x2 x3 xs0 as1 hp h
  unfold F_X8_colour_b14 at h
  refine v_int (pc := 14) (st := []) (As := [.int xs0]) (b := as1) (ci := 8) (q0 := (RX8, TX8, 29)) K E (fun _ e1 => M_X8_refused K.2.2.2.2.2.2.1 _ _ _ _ e1) h dX8_colour_14 ce_X8_refused cv_X8_refused lk_RX8_84 rfl rfl rfl rfl (by decide) rfl rfl (Nat.le_of_ble_eq_true rfl) rfl rfl (by decide) (by decide) (fun x21 h21 h => ?_)
  refine r_if_eq (pc := 17) (tgt := 24) K dX8_colour_17 (by decide) h (fun h _ => ?_) (fun h _ => ?_)
  · refine r_aload_n (pc := 24) K dX8_colour_24 rfl ?_
    refine r_iload_n (pc := 25) K dX8_colour_25 rfl ?_
    refine r_iload_n (pc := 26) K dX8_colour_26 rfl ?_
    refine r_iload_n (pc := 27) K dX8_colour_27 rfl ?_
    refine v_int (pc := 28) (st := []) (As := [.int x1, .int x2, .int x3]) (b := a0) (ci := 8) (q0 := (RX8, TX8, 29)) K E (fun _ e1 => M_X8_colourAt K.2.2.2.2.2.2.1 _ _ _ _ _ _ e1) h dX8_colour_28 ce_X8_colourAt cv_X8_colourAt lk_RX8_106 rfl rfl rfl rfl (by decide) rfl rfl (Nat.le_of_ble_eq_true rfl) rfl rfl (by decide) (by decide) (fun x22 h22 h => ?_)
    exact r_ireturn (pc := 31) K hr dX8_colour_31 h (by decide) (by decide)
  · refine r_iconst (pc := 20) (v := 0) K dX8_colour_20 (by decide) ?_
    refine r_goto (pc := 21) (tgt := 31) K dX8_colour_21 (by decide) ?_
    exact r_ireturn (pc := 31) K hr dX8_colour_31 h (by decide) (by decide)
set_option maxRecDepth 100000 in
set_option maxHeartbeats 4000000 in
theorem M_X8_colour {D : va_G} {cA : Nat → ClassId} {h0 : Nat} {l : Launch} (hl : l.stackTraces = false) (a0 : Nat) (x1 : Int32) (x2 : Int32) (x3 : Int32) (hp : hpT) (res : (Int32 ⊕ String) × hpT) (h : F_X8_colour a0 x1 x2 x3 hp = some res) : vx_Met l yX8_colour (wsm yX8_colour cX8_colour 4 (some .int)) rm_X8_colour (va_Pc [va_rf (some a0), .int x1, .int x2, .int x3] (Pre strL D cA h0 hp)) (QI D cA h0 res) (XE D cA h0 res) 0 0 (Af h0) := by
  unfold F_X8_colour at h
  refine g_entry (by decide +kernel) hl (cat_c rfl (cat_c rfl (cat_c rfl (cat_c rfl (cat_n))))) (Nat.le_of_ble_eq_true rfl) (lv := [some (va_rf (some a0)), some (.int x1), some (.int x2), some (.int x3)]) rfl ?_
  intro p e s m args below meth c K hr E hn
  have K : Cx strL D cA h0 p l s m args meth c cX8_colour RX8 4 := K
  refine r_aload_n (pc := 0) K dX8_colour_0 rfl ?_
  refine r_aload_n (pc := 1) K dX8_colour_1 rfl ?_
  refine r_iload_n (pc := 2) K dX8_colour_2 rfl ?_
  refine v_int (pc := 3) (st := [va_rf (some a0)]) (As := [.int x1]) (b := a0) (ci := 8) (q0 := (RX8, TX8, 29)) K E (fun _ e1 => M_X8_isPattern K.2.2.2.2.2.2.1 _ _ _ _ e1) h dX8_colour_3 ce_X8_isPattern cv_X8_isPattern lk_RX8_88 rfl rfl rfl rfl (by decide) rfl rfl (Nat.le_of_ble_eq_true rfl) rfl rfl (by decide) (by decide) (fun x23 h23 h => ?_)
  refine r_if_eq (pc := 6) (tgt := 13) K dX8_colour_6 (by decide) h (fun h _ => ?_) (fun h _ => ?_)
  · refine r_iconst (pc := 13) (v := 1) K dX8_colour_13 (by decide) ?_
    exact r_weak (lv2 := [some (va_rf (some a0)), some (.int x1), some (.int x2), some (.int x3)]) ⟨rfl, rfl, rfl, rfl, trivial⟩ ((B_X8_colour_b14 K hr E  _ _ _ _ _ _ _ h))
  · refine r_iconst (pc := 9) (v := 0) K dX8_colour_9 (by decide) ?_
    refine r_goto (pc := 10) (tgt := 14) K dX8_colour_10 (by decide) ?_
    exact r_weak (lv2 := [some (va_rf (some a0)), some (.int x1), some (.int x2), some (.int x3)]) ⟨rfl, rfl, rfl, rfl, trivial⟩ ((B_X8_colour_b14 K hr E  _ _ _ _ _ _ _ h))
def rm_X8_repeat : Room := { frames := 2, cells := 0, slots := 0, locals := 43 }
set_option maxRecDepth 100000 in
set_option maxHeartbeats 4000000 in
theorem B_X8_repeat_b14 (K : Cx strL D cA h0 p l s m args meth c cX8_repeat RX8 3) (hr : meth.sig.returnType = (some .int)) (E : ∀ x ∈ c.exceptionTable.toList, False) {res : (Int32 ⊕ String) × hpT} : ∀ (a0 : Nat) (x1 : Int32) (x2 : Int32) (xs0 : Int32) (as1 : Nat) (hp : hpT), F_X8_repeat_b14  a0 x1 x2 xs0 as1 hp = some res → G D cA h0 p l e rm_X8_repeat s m args below meth c 3 (vx_MQ below (QI D cA h0 res) (XE D cA h0 res) args s 0 0 (Af h0)) 0 0 hp 14 [some (va_rf (some a0)), some (.int x1), some (.int x2)] [.int xs0, va_rf (some as1)] := by
  intro a0 x1 x2 xs0 as1 hp h
  unfold F_X8_repeat_b14 at h
  refine v_int (pc := 14) (st := []) (As := [.int xs0]) (b := as1) (ci := 8) (q0 := (RX8, TX8, 29)) K E (fun _ e1 => M_X8_refused K.2.2.2.2.2.2.1 _ _ _ _ e1) h dX8_repeat_14 ce_X8_refused cv_X8_refused lk_RX8_84 rfl rfl rfl rfl (by decide) rfl rfl (Nat.le_of_ble_eq_true rfl) rfl rfl (by decide) (by decide) (fun x21 h21 h => ?_)
  refine r_if_eq (pc := 17) (tgt := 24) K dX8_repeat_17 (by decide) h (fun h _ => ?_) (fun h _ => ?_)
  · refine r_iload_n (pc := 24) K dX8_repeat_24 rfl ?_
    refine r_if_eq (pc := 25) (tgt := 36) K dX8_repeat_25 (by decide) h (fun h _ => ?_) (fun h _ => ?_)
    · refine r_aload_n (pc := 36) K dX8_repeat_36 rfl ?_
      refine r_iload_n (pc := 37) K dX8_repeat_37 rfl ?_
      refine v_int (pc := 38) (st := []) (As := [.int x1]) (b := a0) (ci := 8) (q0 := (RX8, TX8, 29)) K E (fun _ e1 => M_X8_columns K.2.2.2.2.2.2.1 _ _ _ _ e1) h dX8_repeat_38 ce_X8_columns cv_X8_columns lk_RX8_91 rfl rfl rfl rfl (by decide) rfl rfl (Nat.le_of_ble_eq_true rfl) rfl rfl (by decide) (by decide) (fun x22 h22 h => ?_)
      exact r_ireturn (pc := 41) K hr dX8_repeat_41 h (by decide) (by decide)
    · refine r_aload_n (pc := 28) K dX8_repeat_28 rfl ?_
      refine r_iload_n (pc := 29) K dX8_repeat_29 rfl ?_
      refine v_int (pc := 30) (st := []) (As := [.int x1]) (b := a0) (ci := 8) (q0 := (RX8, TX8, 29)) K E (fun _ e1 => M_X8_rows K.2.2.2.2.2.2.1 _ _ _ _ e1) h dX8_repeat_30 ce_X8_rows cv_X8_rows lk_RX8_99 rfl rfl rfl rfl (by decide) rfl rfl (Nat.le_of_ble_eq_true rfl) rfl rfl (by decide) (by decide) (fun x23 h23 h => ?_)
      refine r_goto (pc := 33) (tgt := 41) K dX8_repeat_33 (by decide) ?_
      exact r_ireturn (pc := 41) K hr dX8_repeat_41 h (by decide) (by decide)
  · refine r_iconst (pc := 20) (v := 0) K dX8_repeat_20 (by decide) ?_
    refine r_goto (pc := 21) (tgt := 41) K dX8_repeat_21 (by decide) ?_
    exact r_ireturn (pc := 41) K hr dX8_repeat_41 h (by decide) (by decide)
set_option maxRecDepth 100000 in
set_option maxHeartbeats 4000000 in
theorem M_X8_repeat {D : va_G} {cA : Nat → ClassId} {h0 : Nat} {l : Launch} (hl : l.stackTraces = false) (a0 : Nat) (x1 : Int32) (x2 : Int32) (hp : hpT) (res : (Int32 ⊕ String) × hpT) (h : F_X8_repeat a0 x1 x2 hp = some res) : vx_Met l yX8_repeat (wsm yX8_repeat cX8_repeat 3 (some .int)) rm_X8_repeat (va_Pc [va_rf (some a0), .int x1, .int x2] (Pre strL D cA h0 hp)) (QI D cA h0 res) (XE D cA h0 res) 0 0 (Af h0) := by
  unfold F_X8_repeat at h
  refine g_entry (by decide +kernel) hl (cat_c rfl (cat_c rfl (cat_c rfl (cat_n)))) (Nat.le_of_ble_eq_true rfl) (lv := [some (va_rf (some a0)), some (.int x1), some (.int x2)]) rfl ?_
  intro p e s m args below meth c K hr E hn
  have K : Cx strL D cA h0 p l s m args meth c cX8_repeat RX8 3 := K
  refine r_aload_n (pc := 0) K dX8_repeat_0 rfl ?_
  refine r_aload_n (pc := 1) K dX8_repeat_1 rfl ?_
  refine r_iload_n (pc := 2) K dX8_repeat_2 rfl ?_
  refine v_int (pc := 3) (st := [va_rf (some a0)]) (As := [.int x1]) (b := a0) (ci := 8) (q0 := (RX8, TX8, 29)) K E (fun _ e1 => M_X8_isPattern K.2.2.2.2.2.2.1 _ _ _ _ e1) h dX8_repeat_3 ce_X8_isPattern cv_X8_isPattern lk_RX8_88 rfl rfl rfl rfl (by decide) rfl rfl (Nat.le_of_ble_eq_true rfl) rfl rfl (by decide) (by decide) (fun x24 h24 h => ?_)
  refine r_if_eq (pc := 6) (tgt := 13) K dX8_repeat_6 (by decide) h (fun h _ => ?_) (fun h _ => ?_)
  · refine r_iconst (pc := 13) (v := 1) K dX8_repeat_13 (by decide) ?_
    exact r_weak (lv2 := [some (va_rf (some a0)), some (.int x1), some (.int x2)]) ⟨rfl, rfl, rfl, trivial⟩ ((B_X8_repeat_b14 K hr E  _ _ _ _ _ _ h))
  · refine r_iconst (pc := 9) (v := 0) K dX8_repeat_9 (by decide) ?_
    refine r_goto (pc := 10) (tgt := 14) K dX8_repeat_10 (by decide) ?_
    exact r_weak (lv2 := [some (va_rf (some a0)), some (.int x1), some (.int x2)]) ⟨rfl, rfl, rfl, trivial⟩ ((B_X8_repeat_b14 K hr E  _ _ _ _ _ _ h))
def rm_X8_holds : Room := { frames := 2, cells := 0, slots := 0, locals := 54 }
set_option maxRecDepth 100000 in
set_option maxHeartbeats 4000000 in
theorem B_X8_holds_b64 (K : Cx strL D cA h0 p l s m args meth c cX8_holds RX8 7) (hr : meth.sig.returnType = (some .boolean)) (E : ∀ x ∈ c.exceptionTable.toList, False) {res : (Int32 ⊕ String) × hpT} {K6 : Nat → Int32 → Int32 → Int32 → Int32 → Int32 → hpT → Rs Int32} (hK6 : ∀ (a0 : Nat) (x1 : Int32) (x2 : Int32) (x3 : Int32) (x4 : Int32) (x5 : Int32) (hp : hpT), K6 a0 x1 x2 x3 x4 x5 hp = some res → G D cA h0 p l e rm_X8_holds s m args below meth c 7 (vx_MQ below (QI D cA h0 res) (XE D cA h0 res) args s 0 0 (Af h0)) 0 0 hp 6 [some (va_rf (some a0)), some (.int x1), some (.int x2), some (.int x3), some (.int x4), some (.int x5), none] []) {K19 : Nat → Int32 → Int32 → Int32 → Int32 → Int32 → Int32 → hpT → Rs Int32} (hK19 : ∀ (a0 : Nat) (x1 : Int32) (x2 : Int32) (x3 : Int32) (x4 : Int32) (x5 : Int32) (x6 : Int32) (hp : hpT), K19 a0 x1 x2 x3 x4 x5 x6 hp = some res → G D cA h0 p l e rm_X8_holds s m args below meth c 7 (vx_MQ below (QI D cA h0 res) (XE D cA h0 res) args s 0 0 (Af h0)) 0 0 hp 19 [some (va_rf (some a0)), some (.int x1), some (.int x2), some (.int x3), some (.int x4), some (.int x5), some (.int x6)] []) : ∀ (a0 : Nat) (x1 : Int32) (x2 : Int32) (x3 : Int32) (x5 : Int32) (x6 : Int32) (xs0 : Int32) (hp : hpT), F_X8_holds_b64 K6 K19 a0 x1 x2 x3 x5 x6 xs0 hp = some res → G D cA h0 p l e rm_X8_holds s m args below meth c 7 (vx_MQ below (QI D cA h0 res) (XE D cA h0 res) args s 0 0 (Af h0)) 0 0 hp 64 [some (va_rf (some a0)), some (.int x1), some (.int x2), some (.int x3), none, some (.int x5), some (.int x6)] [.int xs0] := by
  intro a0 x1 x2 x3 x5 x6 xs0 hp h
  unfold F_X8_holds_b64 at h
  refine r_istore (pc := 64) (lv' := [some (va_rf (some a0)), some (.int x1), some (.int x2), some (.int x3), some (.int xs0), some (.int x5), some (.int x6)]) K dX8_holds_64 (by decide) rfl ?_
  refine r_iinc (pc := 66) (v := (x6 + 1)) (lv' := [some (va_rf (some a0)), some (.int x1), some (.int x2), some (.int x3), some (.int xs0), some (.int x5), some (.int (x6 + 1))]) K dX8_holds_66 rfl rfl (by decide) rfl ?_
  refine r_goto (pc := 69) (tgt := 19) K dX8_holds_69 (by decide) ?_
  exact r_weak (lv2 := [some (va_rf (some a0)), some (.int x1), some (.int x2), some (.int x3), some (.int xs0), some (.int x5), some (.int (x6 + 1))]) ⟨rfl, rfl, rfl, rfl, rfl, rfl, rfl, trivial⟩ ((hK19 _ _ _ _ _ _ _ _ h))
set_option maxRecDepth 100000 in
set_option maxHeartbeats 4000000 in
theorem B_X8_holds_b63 (K : Cx strL D cA h0 p l s m args meth c cX8_holds RX8 7) (hr : meth.sig.returnType = (some .boolean)) (E : ∀ x ∈ c.exceptionTable.toList, False) {res : (Int32 ⊕ String) × hpT} {K6 : Nat → Int32 → Int32 → Int32 → Int32 → Int32 → hpT → Rs Int32} (hK6 : ∀ (a0 : Nat) (x1 : Int32) (x2 : Int32) (x3 : Int32) (x4 : Int32) (x5 : Int32) (hp : hpT), K6 a0 x1 x2 x3 x4 x5 hp = some res → G D cA h0 p l e rm_X8_holds s m args below meth c 7 (vx_MQ below (QI D cA h0 res) (XE D cA h0 res) args s 0 0 (Af h0)) 0 0 hp 6 [some (va_rf (some a0)), some (.int x1), some (.int x2), some (.int x3), some (.int x4), some (.int x5), none] []) {K19 : Nat → Int32 → Int32 → Int32 → Int32 → Int32 → Int32 → hpT → Rs Int32} (hK19 : ∀ (a0 : Nat) (x1 : Int32) (x2 : Int32) (x3 : Int32) (x4 : Int32) (x5 : Int32) (x6 : Int32) (hp : hpT), K19 a0 x1 x2 x3 x4 x5 x6 hp = some res → G D cA h0 p l e rm_X8_holds s m args below meth c 7 (vx_MQ below (QI D cA h0 res) (XE D cA h0 res) args s 0 0 (Af h0)) 0 0 hp 19 [some (va_rf (some a0)), some (.int x1), some (.int x2), some (.int x3), some (.int x4), some (.int x5), some (.int x6)] []) : ∀ (a0 : Nat) (x1 : Int32) (x2 : Int32) (x3 : Int32) (x5 : Int32) (x6 : Int32) (hp : hpT), F_X8_holds_b63 K6 K19 a0 x1 x2 x3 x5 x6 hp = some res → G D cA h0 p l e rm_X8_holds s m args below meth c 7 (vx_MQ below (QI D cA h0 res) (XE D cA h0 res) args s 0 0 (Af h0)) 0 0 hp 63 [some (va_rf (some a0)), some (.int x1), some (.int x2), some (.int x3), none, some (.int x5), some (.int x6)] [] := by
  intro a0 x1 x2 x3 x5 x6 hp h
  unfold F_X8_holds_b63 at h
  refine r_iconst (pc := 63) (v := 0) K dX8_holds_63 (by decide) ?_
  exact r_weak (lv2 := [some (va_rf (some a0)), some (.int x1), some (.int x2), some (.int x3), none, some (.int x5), some (.int x6)]) ⟨rfl, rfl, rfl, rfl, rfl, rfl, trivial⟩ ((B_X8_holds_b64 K hr E hK6 hK19  _ _ _ _ _ _ _ _ h))
set_option maxRecDepth 100000 in
set_option maxHeartbeats 4000000 in
theorem B_X8_holds_b19 (K : Cx strL D cA h0 p l s m args meth c cX8_holds RX8 7) (hr : meth.sig.returnType = (some .boolean)) (E : ∀ x ∈ c.exceptionTable.toList, False) {res : (Int32 ⊕ String) × hpT} {K6 : Nat → Int32 → Int32 → Int32 → Int32 → Int32 → hpT → Rs Int32} (hK6 : ∀ (a0 : Nat) (x1 : Int32) (x2 : Int32) (x3 : Int32) (x4 : Int32) (x5 : Int32) (hp : hpT), K6 a0 x1 x2 x3 x4 x5 hp = some res → G D cA h0 p l e rm_X8_holds s m args below meth c 7 (vx_MQ below (QI D cA h0 res) (XE D cA h0 res) args s 0 0 (Af h0)) 0 0 hp 6 [some (va_rf (some a0)), some (.int x1), some (.int x2), some (.int x3), some (.int x4), some (.int x5), none] []) : ∀ (n : Nat) (a0 : Nat) (x1 : Int32) (x2 : Int32) (x3 : Int32) (x4 : Int32) (x5 : Int32) (x6 : Int32) (hp : hpT), F_X8_holds_b19 K6 n a0 x1 x2 x3 x4 x5 x6 hp = some res → G D cA h0 p l e rm_X8_holds s m args below meth c 7 (vx_MQ below (QI D cA h0 res) (XE D cA h0 res) args s 0 0 (Af h0)) 0 0 hp 19 [some (va_rf (some a0)), some (.int x1), some (.int x2), some (.int x3), some (.int x4), some (.int x5), some (.int x6)] [] := by
  intro n
  induction n with
  | zero => intro a0 x1 x2 x3 x4 x5 x6 hp h; cases h
  | succ n ih =>
    intro a0 x1 x2 x3 x4 x5 x6 hp h
    rw [F_X8_holds_b19] at h
    refine r_iload (pc := 19) K dX8_holds_19 rfl ?_
    refine r_aload_n (pc := 21) K dX8_holds_21 rfl ?_
    refine r_iload_n (pc := 22) K dX8_holds_22 rfl ?_
    refine v_int (pc := 23) (st := [.int x6]) (As := [.int x1]) (b := a0) (ci := 8) (q0 := (RX8, TX8, 29)) K E (fun _ e1 => M_X8_rows K.2.2.2.2.2.2.1 _ _ _ _ e1) h dX8_holds_23 ce_X8_rows cv_X8_rows lk_RX8_99 rfl rfl rfl rfl (by decide) rfl rfl (Nat.le_of_ble_eq_true rfl) rfl rfl (by decide) (by decide) (fun x21 h21 h => ?_)
    refine r_icmp_ge (pc := 26) (tgt := 72) K dX8_holds_26 (by decide) h (fun h _ => ?_) (fun h _ => ?_)
    · refine r_iinc (pc := 72) (v := (x5 + 1)) (lv' := [some (va_rf (some a0)), some (.int x1), some (.int x2), some (.int x3), some (.int x4), some (.int (x5 + 1)), some (.int x6)]) K dX8_holds_72 rfl rfl (by decide) rfl ?_
      refine r_goto (pc := 75) (tgt := 6) K dX8_holds_75 (by decide) ?_
      exact r_weak (lv2 := [some (va_rf (some a0)), some (.int x1), some (.int x2), some (.int x3), some (.int x4), some (.int (x5 + 1)), none]) ⟨rfl, rfl, rfl, rfl, rfl, rfl, trivial⟩ ((hK6 _ _ _ _ _ _ _ h))
    · refine r_iload (pc := 29) K dX8_holds_29 rfl ?_
      refine r_if_eq (pc := 31) (tgt := 63) K dX8_holds_31 (by decide) h (fun h _ => ?_) (fun h _ => ?_)
      · exact r_weak (lv2 := [some (va_rf (some a0)), some (.int x1), some (.int x2), some (.int x3), none, some (.int x5), some (.int x6)]) ⟨rfl, rfl, rfl, rfl, rfl, rfl, trivial⟩ ((B_X8_holds_b63 K hr E hK6 ih  _ _ _ _ _ _ _ h))
      · refine r_aload_n (pc := 34) K dX8_holds_34 rfl ?_
        refine r_iload_n (pc := 35) K dX8_holds_35 rfl ?_
        refine r_iload (pc := 36) K dX8_holds_36 rfl ?_
        refine r_iload_n (pc := 38) K dX8_holds_38 rfl ?_
        refine r_iadd (pc := 39) K dX8_holds_39 ?_
        refine r_iload (pc := 40) K dX8_holds_40 rfl ?_
        refine r_iload_n (pc := 42) K dX8_holds_42 rfl ?_
        refine r_iadd (pc := 43) K dX8_holds_43 ?_
        refine v_int (pc := 44) (st := []) (As := [.int x1, .int (x5 + x2), .int (x6 + x3)]) (b := a0) (ci := 8) (q0 := (RX8, TX8, 29)) K E (fun _ e1 => M_X8_colourAt K.2.2.2.2.2.2.1 _ _ _ _ _ _ e1) h dX8_holds_44 ce_X8_colourAt cv_X8_colourAt lk_RX8_106 rfl rfl rfl rfl (by decide) rfl rfl (Nat.le_of_ble_eq_true rfl) rfl rfl (by decide) (by decide) (fun x22 h22 h => ?_)
        refine r_aload_n (pc := 47) K dX8_holds_47 rfl ?_
        refine r_iload_n (pc := 48) K dX8_holds_48 rfl ?_
        refine r_iload (pc := 49) K dX8_holds_49 rfl ?_
        refine r_iload (pc := 51) K dX8_holds_51 rfl ?_
        refine v_int (pc := 53) (st := [.int x22]) (As := [.int x1, .int x5, .int x6]) (b := a0) (ci := 8) (q0 := (RX8, TX8, 29)) K E (fun _ e1 => M_X8_cell K.2.2.2.2.2.2.1 _ _ _ _ _ _ e1) h dX8_holds_53 ce_X8_cell cv_X8_cell lk_RX8_102 rfl rfl rfl rfl (by decide) rfl rfl (Nat.le_of_ble_eq_true rfl) rfl rfl (by decide) (by decide) (fun x23 h23 h => ?_)
        refine r_icmp_ne (pc := 56) (tgt := 63) K dX8_holds_56 (by decide) h (fun h _ => ?_) (fun h _ => ?_)
        · exact r_weak (lv2 := [some (va_rf (some a0)), some (.int x1), some (.int x2), some (.int x3), none, some (.int x5), some (.int x6)]) ⟨rfl, rfl, rfl, rfl, rfl, rfl, trivial⟩ ((B_X8_holds_b63 K hr E hK6 ih  _ _ _ _ _ _ _ h))
        · refine r_iconst (pc := 59) (v := 1) K dX8_holds_59 (by decide) ?_
          refine r_goto (pc := 60) (tgt := 64) K dX8_holds_60 (by decide) ?_
          exact r_weak (lv2 := [some (va_rf (some a0)), some (.int x1), some (.int x2), some (.int x3), none, some (.int x5), some (.int x6)]) ⟨rfl, rfl, rfl, rfl, rfl, rfl, trivial⟩ ((B_X8_holds_b64 K hr E hK6 ih  _ _ _ _ _ _ _ _ h))
set_option maxRecDepth 100000 in
set_option maxHeartbeats 4000000 in
theorem B_X8_holds_b6 (K : Cx strL D cA h0 p l s m args meth c cX8_holds RX8 7) (hr : meth.sig.returnType = (some .boolean)) (E : ∀ x ∈ c.exceptionTable.toList, False) {res : (Int32 ⊕ String) × hpT} : ∀ (n : Nat) (a0 : Nat) (x1 : Int32) (x2 : Int32) (x3 : Int32) (x4 : Int32) (x5 : Int32) (hp : hpT), F_X8_holds_b6  n a0 x1 x2 x3 x4 x5 hp = some res → G D cA h0 p l e rm_X8_holds s m args below meth c 7 (vx_MQ below (QI D cA h0 res) (XE D cA h0 res) args s 0 0 (Af h0)) 0 0 hp 6 [some (va_rf (some a0)), some (.int x1), some (.int x2), some (.int x3), some (.int x4), some (.int x5), none] [] := by
  intro n
  induction n with
  | zero => intro a0 x1 x2 x3 x4 x5 hp h; cases h
  | succ n ih =>
    intro a0 x1 x2 x3 x4 x5 hp h
    rw [F_X8_holds_b6] at h
    refine r_iload (pc := 6) K dX8_holds_6 rfl ?_
    refine r_aload_n (pc := 8) K dX8_holds_8 rfl ?_
    refine r_iload_n (pc := 9) K dX8_holds_9 rfl ?_
    refine v_int (pc := 10) (st := [.int x5]) (As := [.int x1]) (b := a0) (ci := 8) (q0 := (RX8, TX8, 29)) K E (fun _ e1 => M_X8_columns K.2.2.2.2.2.2.1 _ _ _ _ e1) h dX8_holds_10 ce_X8_columns cv_X8_columns lk_RX8_91 rfl rfl rfl rfl (by decide) rfl rfl (Nat.le_of_ble_eq_true rfl) rfl rfl (by decide) (by decide) (fun x24 h24 h => ?_)
    refine r_icmp_ge (pc := 13) (tgt := 78) K dX8_holds_13 (by decide) h (fun h _ => ?_) (fun h _ => ?_)
    · refine r_iload (pc := 78) K dX8_holds_78 rfl ?_
      exact r_zreturn (pc := 80) K hr dX8_holds_80 h (by decide) (by decide)
    · refine r_iconst (pc := 16) (v := 0) K dX8_holds_16 (by decide) ?_
      refine r_istore (pc := 17) (lv' := [some (va_rf (some a0)), some (.int x1), some (.int x2), some (.int x3), some (.int x4), some (.int x5), some (.int 0)]) K dX8_holds_17 (by decide) rfl ?_
      exact r_weak (lv2 := [some (va_rf (some a0)), some (.int x1), some (.int x2), some (.int x3), some (.int x4), some (.int x5), some (.int 0)]) ⟨rfl, rfl, rfl, rfl, rfl, rfl, rfl, trivial⟩ ((B_X8_holds_b19 K hr E ih 1000 _ _ _ _ _ _ _ _ h))
set_option maxRecDepth 100000 in
set_option maxHeartbeats 4000000 in
theorem M_X8_holds {D : va_G} {cA : Nat → ClassId} {h0 : Nat} {l : Launch} (hl : l.stackTraces = false) (a0 : Nat) (x1 : Int32) (x2 : Int32) (x3 : Int32) (hp : hpT) (res : (Int32 ⊕ String) × hpT) (h : F_X8_holds a0 x1 x2 x3 hp = some res) : vx_Met l yX8_holds (wsm yX8_holds cX8_holds 7 (some .boolean)) rm_X8_holds (va_Pc [va_rf (some a0), .int x1, .int x2, .int x3] (Pre strL D cA h0 hp)) (QI D cA h0 res) (XE D cA h0 res) 0 0 (Af h0) := by
  unfold F_X8_holds at h
  refine g_entry (by decide +kernel) hl (cat_c rfl (cat_c rfl (cat_c rfl (cat_c rfl (cat_n))))) (Nat.le_of_ble_eq_true rfl) (lv := [some (va_rf (some a0)), some (.int x1), some (.int x2), some (.int x3), none, none, none]) rfl ?_
  intro p e s m args below meth c K hr E hn
  have K : Cx strL D cA h0 p l s m args meth c cX8_holds RX8 7 := K
  refine r_iconst (pc := 0) (v := 1) K dX8_holds_0 (by decide) ?_
  refine r_istore (pc := 1) (lv' := [some (va_rf (some a0)), some (.int x1), some (.int x2), some (.int x3), some (.int 1), none, none]) K dX8_holds_1 (by decide) rfl ?_
  refine r_iconst (pc := 3) (v := 0) K dX8_holds_3 (by decide) ?_
  refine r_istore (pc := 4) (lv' := [some (va_rf (some a0)), some (.int x1), some (.int x2), some (.int x3), some (.int 1), some (.int 0), none]) K dX8_holds_4 (by decide) rfl ?_
  exact r_weak (lv2 := [some (va_rf (some a0)), some (.int x1), some (.int x2), some (.int x3), some (.int 1), some (.int 0), none]) ⟨rfl, rfl, rfl, rfl, rfl, rfl, trivial⟩ ((B_X8_holds_b6 K hr E 1000 _ _ _ _ _ _ _ h))
def rm_X8_repeatAnew : Room := { frames := 3, cells := 0, slots := 0, locals := 80 }
set_option maxRecDepth 100000 in
set_option maxHeartbeats 4000000 in
theorem B_X8_repeatAnew_b44 (K : Cx strL D cA h0 p l s m args meth c cX8_repeatAnew RX8 4) (hr : meth.sig.returnType = (some .int)) (E : ∀ x ∈ c.exceptionTable.toList, False) {res : (Int32 ⊕ String) × hpT} {K24 : Nat → Int32 → Int32 → Int32 → hpT → Rs Int32} (hK24 : ∀ (a0 : Nat) (x1 : Int32) (x2 : Int32) (x3 : Int32) (hp : hpT), K24 a0 x1 x2 x3 hp = some res → G D cA h0 p l e rm_X8_repeatAnew s m args below meth c 4 (vx_MQ below (QI D cA h0 res) (XE D cA h0 res) args s 0 0 (Af h0)) 0 0 hp 24 [some (va_rf (some a0)), some (.int x1), some (.int x2), some (.int x3)] []) : ∀ (a0 : Nat) (x1 : Int32) (x2 : Int32) (x3 : Int32) (xs0 : Int32) (xs1 : Int32) (xs2 : Int32) (as3 : Nat) (hp : hpT), F_X8_repeatAnew_b44 K24 a0 x1 x2 x3 xs0 xs1 xs2 as3 hp = some res → G D cA h0 p l e rm_X8_repeatAnew s m args below meth c 4 (vx_MQ below (QI D cA h0 res) (XE D cA h0 res) args s 0 0 (Af h0)) 0 0 hp 44 [some (va_rf (some a0)), some (.int x1), some (.int x2), some (.int x3)] [.int xs0, .int xs1, .int xs2, va_rf (some as3)] := by
  intro a0 x1 x2 x3 xs0 xs1 xs2 as3 hp h
  unfold F_X8_repeatAnew_b44 at h
  refine v_int (pc := 44) (st := []) (As := [.int xs2, .int xs1, .int xs0]) (b := as3) (ci := 8) (q0 := (RX8, TX8, 29)) K E (fun _ e1 => M_X8_holds K.2.2.2.2.2.2.1 _ _ _ _ _ _ e1) h dX8_repeatAnew_44 ce_X8_holds cv_X8_holds lk_RX8_109 rfl rfl rfl rfl (by decide) rfl rfl (Nat.le_of_ble_eq_true rfl) rfl rfl (by decide) (by decide) (fun x21 h21 h => ?_)
  refine r_if_ne (pc := 47) (tgt := 56) K dX8_repeatAnew_47 (by decide) h (fun h _ => ?_) (fun h _ => ?_)
  · refine r_iload_n (pc := 56) K dX8_repeatAnew_56 rfl ?_
    exact r_ireturn (pc := 57) K hr dX8_repeatAnew_57 h (by decide) (by decide)
  · refine r_iinc (pc := 50) (v := (x3 + 1)) (lv' := [some (va_rf (some a0)), some (.int x1), some (.int x2), some (.int (x3 + 1))]) K dX8_repeatAnew_50 rfl rfl (by decide) rfl ?_
    refine r_goto (pc := 53) (tgt := 24) K dX8_repeatAnew_53 (by decide) ?_
    exact r_weak (lv2 := [some (va_rf (some a0)), some (.int x1), some (.int x2), some (.int (x3 + 1))]) ⟨rfl, rfl, rfl, rfl, trivial⟩ ((hK24 _ _ _ _ _ h))
set_option maxRecDepth 100000 in
set_option maxHeartbeats 4000000 in
theorem B_X8_repeatAnew_b35 (K : Cx strL D cA h0 p l s m args meth c cX8_repeatAnew RX8 4) (hr : meth.sig.returnType = (some .int)) (E : ∀ x ∈ c.exceptionTable.toList, False) {res : (Int32 ⊕ String) × hpT} {K24 : Nat → Int32 → Int32 → Int32 → hpT → Rs Int32} (hK24 : ∀ (a0 : Nat) (x1 : Int32) (x2 : Int32) (x3 : Int32) (hp : hpT), K24 a0 x1 x2 x3 hp = some res → G D cA h0 p l e rm_X8_repeatAnew s m args below meth c 4 (vx_MQ below (QI D cA h0 res) (XE D cA h0 res) args s 0 0 (Af h0)) 0 0 hp 24 [some (va_rf (some a0)), some (.int x1), some (.int x2), some (.int x3)] []) : ∀ (a0 : Nat) (x1 : Int32) (x2 : Int32) (x3 : Int32) (xs0 : Int32) (xs1 : Int32) (as2 : Nat) (hp : hpT), F_X8_repeatAnew_b35 K24 a0 x1 x2 x3 xs0 xs1 as2 hp = some res → G D cA h0 p l e rm_X8_repeatAnew s m args below meth c 4 (vx_MQ below (QI D cA h0 res) (XE D cA h0 res) args s 0 0 (Af h0)) 0 0 hp 35 [some (va_rf (some a0)), some (.int x1), some (.int x2), some (.int x3)] [.int xs0, .int xs1, va_rf (some as2)] := by
  intro a0 x1 x2 x3 xs0 xs1 as2 hp h
  unfold F_X8_repeatAnew_b35 at h
  refine r_iload_n (pc := 35) K dX8_repeatAnew_35 rfl ?_
  refine r_if_eq (pc := 36) (tgt := 43) K dX8_repeatAnew_36 (by decide) h (fun h _ => ?_) (fun h _ => ?_)
  · refine r_iconst (pc := 43) (v := 0) K dX8_repeatAnew_43 (by decide) ?_
    exact r_weak (lv2 := [some (va_rf (some a0)), some (.int x1), some (.int x2), some (.int x3)]) ⟨rfl, rfl, rfl, rfl, trivial⟩ ((B_X8_repeatAnew_b44 K hr E hK24  _ _ _ _ _ _ _ _ _ h))
  · refine r_iload_n (pc := 39) K dX8_repeatAnew_39 rfl ?_
    refine r_goto (pc := 40) (tgt := 44) K dX8_repeatAnew_40 (by decide) ?_
    exact r_weak (lv2 := [some (va_rf (some a0)), some (.int x1), some (.int x2), some (.int x3)]) ⟨rfl, rfl, rfl, rfl, trivial⟩ ((B_X8_repeatAnew_b44 K hr E hK24  _ _ _ _ _ _ _ _ _ h))
set_option maxRecDepth 100000 in
set_option maxHeartbeats 4000000 in
theorem B_X8_repeatAnew_b24 (K : Cx strL D cA h0 p l s m args meth c cX8_repeatAnew RX8 4) (hr : meth.sig.returnType = (some .int)) (E : ∀ x ∈ c.exceptionTable.toList, False) {res : (Int32 ⊕ String) × hpT} : ∀ (n : Nat) (a0 : Nat) (x1 : Int32) (x2 : Int32) (x3 : Int32) (hp : hpT), F_X8_repeatAnew_b24  n a0 x1 x2 x3 hp = some res → G D cA h0 p l e rm_X8_repeatAnew s m args below meth c 4 (vx_MQ below (QI D cA h0 res) (XE D cA h0 res) args s 0 0 (Af h0)) 0 0 hp 24 [some (va_rf (some a0)), some (.int x1), some (.int x2), some (.int x3)] [] := by
  intro n
  induction n with
  | zero => intro a0 x1 x2 x3 hp h; cases h
  | succ n ih =>
    intro a0 x1 x2 x3 hp h
    rw [F_X8_repeatAnew_b24] at h
    refine r_aload_n (pc := 24) K dX8_repeatAnew_24 rfl ?_
    refine r_iload_n (pc := 25) K dX8_repeatAnew_25 rfl ?_
    refine r_iload_n (pc := 26) K dX8_repeatAnew_26 rfl ?_
    refine r_if_eq (pc := 27) (tgt := 34) K dX8_repeatAnew_27 (by decide) h (fun h _ => ?_) (fun h _ => ?_)
    · refine r_iload_n (pc := 34) K dX8_repeatAnew_34 rfl ?_
      exact r_weak (lv2 := [some (va_rf (some a0)), some (.int x1), some (.int x2), some (.int x3)]) ⟨rfl, rfl, rfl, rfl, trivial⟩ ((B_X8_repeatAnew_b35 K hr E ih  _ _ _ _ _ _ _ _ h))
    · refine r_iconst (pc := 30) (v := 0) K dX8_repeatAnew_30 (by decide) ?_
      refine r_goto (pc := 31) (tgt := 35) K dX8_repeatAnew_31 (by decide) ?_
      exact r_weak (lv2 := [some (va_rf (some a0)), some (.int x1), some (.int x2), some (.int x3)]) ⟨rfl, rfl, rfl, rfl, trivial⟩ ((B_X8_repeatAnew_b35 K hr E ih  _ _ _ _ _ _ _ _ h))
set_option maxRecDepth 100000 in
set_option maxHeartbeats 4000000 in
theorem B_X8_repeatAnew_b14 (K : Cx strL D cA h0 p l s m args meth c cX8_repeatAnew RX8 4) (hr : meth.sig.returnType = (some .int)) (E : ∀ x ∈ c.exceptionTable.toList, False) {res : (Int32 ⊕ String) × hpT} : ∀ (a0 : Nat) (x1 : Int32) (x2 : Int32) (xs0 : Int32) (as1 : Nat) (hp : hpT), F_X8_repeatAnew_b14  a0 x1 x2 xs0 as1 hp = some res → G D cA h0 p l e rm_X8_repeatAnew s m args below meth c 4 (vx_MQ below (QI D cA h0 res) (XE D cA h0 res) args s 0 0 (Af h0)) 0 0 hp 14 [some (va_rf (some a0)), some (.int x1), some (.int x2), none] [.int xs0, va_rf (some as1)] := by
  intro a0 x1 x2 xs0 as1 hp h
  unfold F_X8_repeatAnew_b14 at h
  refine v_int (pc := 14) (st := []) (As := [.int xs0]) (b := as1) (ci := 8) (q0 := (RX8, TX8, 29)) K E (fun _ e1 => M_X8_refused K.2.2.2.2.2.2.1 _ _ _ _ e1) h dX8_repeatAnew_14 ce_X8_refused cv_X8_refused lk_RX8_84 rfl rfl rfl rfl (by decide) rfl rfl (Nat.le_of_ble_eq_true rfl) rfl rfl (by decide) (by decide) (fun x22 h22 h => ?_)
  refine r_if_eq (pc := 17) (tgt := 22) K dX8_repeatAnew_17 (by decide) h (fun h _ => ?_) (fun h _ => ?_)
  · refine r_iconst (pc := 22) (v := 1) K dX8_repeatAnew_22 (by decide) ?_
    refine r_istore_n (pc := 23) (lv' := [some (va_rf (some a0)), some (.int x1), some (.int x2), some (.int 1)]) K dX8_repeatAnew_23 (by decide) rfl ?_
    exact r_weak (lv2 := [some (va_rf (some a0)), some (.int x1), some (.int x2), some (.int 1)]) ⟨rfl, rfl, rfl, rfl, trivial⟩ ((B_X8_repeatAnew_b24 K hr E 1000 _ _ _ _ _ h))
  · refine r_iconst (pc := 20) (v := 0) K dX8_repeatAnew_20 (by decide) ?_
    exact r_ireturn (pc := 21) K hr dX8_repeatAnew_21 h (by decide) (by decide)
set_option maxRecDepth 100000 in
set_option maxHeartbeats 4000000 in
theorem M_X8_repeatAnew {D : va_G} {cA : Nat → ClassId} {h0 : Nat} {l : Launch} (hl : l.stackTraces = false) (a0 : Nat) (x1 : Int32) (x2 : Int32) (hp : hpT) (res : (Int32 ⊕ String) × hpT) (h : F_X8_repeatAnew a0 x1 x2 hp = some res) : vx_Met l yX8_repeatAnew (wsm yX8_repeatAnew cX8_repeatAnew 4 (some .int)) rm_X8_repeatAnew (va_Pc [va_rf (some a0), .int x1, .int x2] (Pre strL D cA h0 hp)) (QI D cA h0 res) (XE D cA h0 res) 0 0 (Af h0) := by
  unfold F_X8_repeatAnew at h
  refine g_entry (by decide +kernel) hl (cat_c rfl (cat_c rfl (cat_c rfl (cat_n)))) (Nat.le_of_ble_eq_true rfl) (lv := [some (va_rf (some a0)), some (.int x1), some (.int x2), none]) rfl ?_
  intro p e s m args below meth c K hr E hn
  have K : Cx strL D cA h0 p l s m args meth c cX8_repeatAnew RX8 4 := K
  refine r_aload_n (pc := 0) K dX8_repeatAnew_0 rfl ?_
  refine r_aload_n (pc := 1) K dX8_repeatAnew_1 rfl ?_
  refine r_iload_n (pc := 2) K dX8_repeatAnew_2 rfl ?_
  refine v_int (pc := 3) (st := [va_rf (some a0)]) (As := [.int x1]) (b := a0) (ci := 8) (q0 := (RX8, TX8, 29)) K E (fun _ e1 => M_X8_isPattern K.2.2.2.2.2.2.1 _ _ _ _ e1) h dX8_repeatAnew_3 ce_X8_isPattern cv_X8_isPattern lk_RX8_88 rfl rfl rfl rfl (by decide) rfl rfl (Nat.le_of_ble_eq_true rfl) rfl rfl (by decide) (by decide) (fun x23 h23 h => ?_)
  refine r_if_eq (pc := 6) (tgt := 13) K dX8_repeatAnew_6 (by decide) h (fun h _ => ?_) (fun h _ => ?_)
  · refine r_iconst (pc := 13) (v := 1) K dX8_repeatAnew_13 (by decide) ?_
    exact r_weak (lv2 := [some (va_rf (some a0)), some (.int x1), some (.int x2), none]) ⟨rfl, rfl, rfl, trivial⟩ ((B_X8_repeatAnew_b14 K hr E  _ _ _ _ _ _ h))
  · refine r_iconst (pc := 9) (v := 0) K dX8_repeatAnew_9 (by decide) ?_
    refine r_goto (pc := 10) (tgt := 14) K dX8_repeatAnew_10 (by decide) ?_
    exact r_weak (lv2 := [some (va_rf (some a0)), some (.int x1), some (.int x2), none]) ⟨rfl, rfl, rfl, trivial⟩ ((B_X8_repeatAnew_b14 K hr E  _ _ _ _ _ _ h))
def rm_X8_roller : Room := { frames := 2, cells := 0, slots := 0, locals := 54 }
set_option maxRecDepth 100000 in
set_option maxHeartbeats 4000000 in
theorem B_X8_roller_b100 (K : Cx strL D cA h0 p l s m args meth c cX8_roller RX8 7) (hr : meth.sig.returnType = (some .int)) (E : ∀ x ∈ c.exceptionTable.toList, False) {res : (Int32 ⊕ String) × hpT} : ∀ (n : Nat) (a0 : Nat) (x1 : Int32) (x5 : Int32) (x6 : Int32) (hp : hpT), F_X8_roller_b100  n a0 x1 x5 x6 hp = some res → G D cA h0 p l e rm_X8_roller s m args below meth c 7 (vx_MQ below (QI D cA h0 res) (XE D cA h0 res) args s 0 0 (Af h0)) 0 0 hp 100 [some (va_rf (some a0)), some (.int x1), none, none, none, some (.int x5), some (.int x6)] [] := by
  intro n
  induction n with
  | zero => intro a0 x1 x5 x6 hp h; cases h
  | succ n ih =>
    intro a0 x1 x5 x6 hp h
    rw [F_X8_roller_b100] at h
    refine r_iload (pc := 100) K dX8_roller_100 rfl ?_
    refine r_bipush (pc := 102) (v := 100) K dX8_roller_102 (by decide) ?_
    refine r_icmp_ge (pc := 104) (tgt := 141) K dX8_roller_104 (by decide) h (fun h _ => ?_) (fun h _ => ?_)
    · refine r_iload (pc := 141) K dX8_roller_141 rfl ?_
      exact r_ireturn (pc := 143) K hr dX8_roller_143 h (by decide) (by decide)
    · refine r_aload_n (pc := 107) K dX8_roller_107 rfl ?_
      refine r_getR (pc := 108) K dX8_roller_108 fk_RX8_28 h (fun r21 h => ?_)
      refine r_bipush (pc := 111) (v := 100) K dX8_roller_111 (by decide) ?_
      refine r_iload (pc := 113) K dX8_roller_113 rfl ?_
      refine r_imul (pc := 115) K dX8_roller_115 ?_
      refine r_iload (pc := 116) K dX8_roller_116 rfl ?_
      refine r_iadd (pc := 118) K dX8_roller_118 ?_
      refine r_aload_n (pc := 119) K dX8_roller_119 rfl ?_
      refine r_iload_n (pc := 120) K dX8_roller_120 rfl ?_
      refine r_iload (pc := 121) K dX8_roller_121 rfl ?_
      refine r_bipush (pc := 123) (v := 10) K dX8_roller_123 (by decide) ?_
      refine r_irem (pc := 125) K dX8_roller_125 h (fun h => ?_)
      refine r_iload (pc := 126) K dX8_roller_126 rfl ?_
      refine r_bipush (pc := 128) (v := 10) K dX8_roller_128 (by decide) ?_
      refine r_idiv (pc := 130) K dX8_roller_130 h (fun h => ?_)
      refine v_int (pc := 131) (st := [.int ((100 * x5) + x6), va_rf r21]) (As := [.int x1, .int (irm x6 10), .int (x6 / 10)]) (b := a0) (ci := 8) (q0 := (RX8, TX8, 29)) K E (fun _ e1 => M_X8_colourAt K.2.2.2.2.2.2.1 _ _ _ _ _ _ e1) h dX8_roller_131 ce_X8_colourAt cv_X8_colourAt lk_RX8_106 rfl rfl rfl rfl (by decide) rfl rfl (mcat_le (cat_c rfl (cat_c (va_rf_cat _) (cat_n))) (Nat.le_of_ble_eq_true rfl)) rfl rfl (by decide) (by decide) (fun x22 h22 h => ?_)
      refine nn_k h (fun a23 hz hq23 => ?_)
      subst hz
      have h := hq23
      refine r_iast (pc := 134) K dX8_roller_134 h (fun h24 h => ?_)
      refine r_iinc (pc := 135) (v := (x6 + 1)) (lv' := [some (va_rf (some a0)), some (.int x1), none, none, none, some (.int x5), some (.int (x6 + 1))]) K dX8_roller_135 rfl rfl (by decide) rfl ?_
      refine r_goto (pc := 138) (tgt := 100) K dX8_roller_138 (by decide) ?_
      exact r_weak (lv2 := [some (va_rf (some a0)), some (.int x1), none, none, none, some (.int x5), some (.int (x6 + 1))]) ⟨rfl, rfl, rfl, rfl, trivial⟩ ((ih _ _ _ _ _ h))
set_option maxRecDepth 100000 in
set_option maxHeartbeats 4000000 in
theorem B_X8_roller_b57 (K : Cx strL D cA h0 p l s m args meth c cX8_roller RX8 7) (hr : meth.sig.returnType = (some .int)) (E : ∀ x ∈ c.exceptionTable.toList, False) {res : (Int32 ⊕ String) × hpT} : ∀ (a0 : Nat) (x1 : Int32) (x2 : Int32) (xs0 : Int32) (as1 : Nat) (hp : hpT), F_X8_roller_b57  a0 x1 x2 xs0 as1 hp = some res → G D cA h0 p l e rm_X8_roller s m args below meth c 7 (vx_MQ below (QI D cA h0 res) (XE D cA h0 res) args s 0 0 (Af h0)) 0 0 hp 57 [some (va_rf (some a0)), some (.int x1), some (.int x2), none, none, none, none] [.int xs0, va_rf (some as1)] := by
  intro a0 x1 x2 xs0 as1 hp h
  unfold F_X8_roller_b57 at h
  refine v_int (pc := 57) (st := []) (As := [.int xs0]) (b := as1) (ci := 8) (q0 := (RX8, TX8, 29)) K E (fun _ e1 => M_X8_refused K.2.2.2.2.2.2.1 _ _ _ _ e1) h dX8_roller_57 ce_X8_refused cv_X8_refused lk_RX8_84 rfl rfl rfl rfl (by decide) rfl rfl (Nat.le_of_ble_eq_true rfl) rfl rfl (by decide) (by decide) (fun x25 h25 h => ?_)
  refine r_if_eq (pc := 60) (tgt := 65) K dX8_roller_60 (by decide) h (fun h _ => ?_) (fun h _ => ?_)
  · refine r_aload_n (pc := 65) K dX8_roller_65 rfl ?_
    refine r_getI (pc := 66) K dX8_roller_66 fk_RX8_112 h (fun x26 h => ?_)
    refine r_istore (pc := 69) (lv' := [some (va_rf (some a0)), some (.int x1), some (.int x2), none, none, some (.int x26), none]) K dX8_roller_69 (by decide) rfl ?_
    refine r_aload_n (pc := 71) K dX8_roller_71 rfl ?_
    refine r_dup (pc := 72) K dX8_roller_72 rfl ?_
    refine r_getI (pc := 73) K dX8_roller_73 fk_RX8_112 h (fun x27 h => ?_)
    refine r_iconst (pc := 76) (v := 1) K dX8_roller_76 (by decide) ?_
    refine r_iadd (pc := 77) K dX8_roller_77 ?_
    refine r_put (pc := 78) K dX8_roller_78 fk_RX8_112 fn_8_6 rfl rfl h (fun h28 h => ?_)
    refine r_aload_n (pc := 81) K dX8_roller_81 rfl ?_
    refine r_getR (pc := 82) K dX8_roller_82 fk_RX8_22 h (fun r29 h => ?_)
    refine r_iload (pc := 85) K dX8_roller_85 rfl ?_
    refine r_iload_n (pc := 87) K dX8_roller_87 rfl ?_
    refine nn_k h (fun a30 hz hq30 => ?_)
    subst hz
    have h := hq30
    refine r_iast (pc := 88) K dX8_roller_88 h (fun h31 h => ?_)
    refine r_aload_n (pc := 89) K dX8_roller_89 rfl ?_
    refine r_getR (pc := 90) K dX8_roller_90 fk_RX8_25 h (fun r32 h => ?_)
    refine r_iload (pc := 93) K dX8_roller_93 rfl ?_
    refine r_iload_n (pc := 95) K dX8_roller_95 rfl ?_
    refine nn_k h (fun a33 hz hq33 => ?_)
    subst hz
    have h := hq33
    refine r_iast (pc := 96) K dX8_roller_96 h (fun h34 h => ?_)
    refine r_iconst (pc := 97) (v := 0) K dX8_roller_97 (by decide) ?_
    refine r_istore (pc := 98) (lv' := [some (va_rf (some a0)), some (.int x1), some (.int x2), none, none, some (.int x26), some (.int 0)]) K dX8_roller_98 (by decide) rfl ?_
    exact r_weak (lv2 := [some (va_rf (some a0)), some (.int x1), none, none, none, some (.int x26), some (.int 0)]) ⟨rfl, rfl, rfl, rfl, trivial⟩ ((B_X8_roller_b100 K hr E 1000 _ _ _ _ _ h))
  · refine r_iconst (pc := 63) (v := 0) K dX8_roller_63 (by decide) ?_
    exact r_ireturn (pc := 64) K hr dX8_roller_64 h (by decide) (by decide)
set_option maxRecDepth 100000 in
set_option maxHeartbeats 4000000 in
theorem B_X8_roller_b52 (K : Cx strL D cA h0 p l s m args meth c cX8_roller RX8 7) (hr : meth.sig.returnType = (some .int)) (E : ∀ x ∈ c.exceptionTable.toList, False) {res : (Int32 ⊕ String) × hpT} : ∀ (a0 : Nat) (x1 : Int32) (x2 : Int32) (as0 : Nat) (hp : hpT), F_X8_roller_b52  a0 x1 x2 as0 hp = some res → G D cA h0 p l e rm_X8_roller s m args below meth c 7 (vx_MQ below (QI D cA h0 res) (XE D cA h0 res) args s 0 0 (Af h0)) 0 0 hp 52 [some (va_rf (some a0)), some (.int x1), some (.int x2), none, none, none, none] [va_rf (some as0)] := by
  intro a0 x1 x2 as0 hp h
  unfold F_X8_roller_b52 at h
  refine r_iconst (pc := 52) (v := 3) K dX8_roller_52 (by decide) ?_
  refine r_goto (pc := 53) (tgt := 57) K dX8_roller_53 (by decide) ?_
  exact r_weak (lv2 := [some (va_rf (some a0)), some (.int x1), some (.int x2), none, none, none, none]) ⟨rfl, rfl, rfl, trivial⟩ ((B_X8_roller_b57 K hr E  _ _ _ _ _ _ h))
set_option maxRecDepth 100000 in
set_option maxHeartbeats 4000000 in
theorem M_X8_roller {D : va_G} {cA : Nat → ClassId} {h0 : Nat} {l : Launch} (hl : l.stackTraces = false) (a0 : Nat) (x1 : Int32) (x2 : Int32) (hp : hpT) (res : (Int32 ⊕ String) × hpT) (h : F_X8_roller a0 x1 x2 hp = some res) : vx_Met l yX8_roller (wsm yX8_roller cX8_roller 7 (some .int)) rm_X8_roller (va_Pc [va_rf (some a0), .int x1, .int x2] (Pre strL D cA h0 hp)) (QI D cA h0 res) (XE D cA h0 res) 0 0 (Af h0) := by
  unfold F_X8_roller at h
  refine g_entry (by decide +kernel) hl (cat_c rfl (cat_c rfl (cat_c rfl (cat_n)))) (Nat.le_of_ble_eq_true rfl) (lv := [some (va_rf (some a0)), some (.int x1), some (.int x2), none, none, none, none]) rfl ?_
  intro p e s m args below meth c K hr E hn
  have K : Cx strL D cA h0 p l s m args meth c cX8_roller RX8 7 := K
  refine r_aload_n (pc := 0) K dX8_roller_0 rfl ?_
  refine r_iload_n (pc := 1) K dX8_roller_1 rfl ?_
  refine v_int (pc := 2) (st := []) (As := [.int x1]) (b := a0) (ci := 8) (q0 := (RX8, TX8, 29)) K E (fun _ e1 => M_X8_isPattern K.2.2.2.2.2.2.1 _ _ _ _ e1) h dX8_roller_2 ce_X8_isPattern cv_X8_isPattern lk_RX8_88 rfl rfl rfl rfl (by decide) rfl rfl (Nat.le_of_ble_eq_true rfl) rfl rfl (by decide) (by decide) (fun x35 h35 h => ?_)
  refine r_istore_n (pc := 5) (lv' := [some (va_rf (some a0)), some (.int x1), some (.int x2), some (.int x35), none, none, none]) K dX8_roller_5 (by decide) rfl ?_
  refine r_iload_n (pc := 6) K dX8_roller_6 rfl ?_
  refine r_iconst (pc := 7) (v := 1) K dX8_roller_7 (by decide) ?_
  refine r_bipush (pc := 8) (v := 60) K dX8_roller_8 (by decide) ?_
  refine s_int (pc := 10) (st := []) (As := [.int x2, .int 1, .int 60]) K E (fun _ e1 => M_X8_is K.2.2.2.2.2.2.1 _ _ _ _ _ e1) h dX8_roller_10 ce_X8_is cs_X8_is lk_RX8_80 rfl rfl (by decide) rfl rfl (Nat.le_of_ble_eq_true rfl) rfl rfl (by decide) (by decide) (fun x36 h36 h => ?_)
  refine r_istore (pc := 13) (lv' := [some (va_rf (some a0)), some (.int x1), some (.int x2), some (.int x35), some (.int x36), none, none]) K dX8_roller_13 (by decide) rfl ?_
  refine r_aload_n (pc := 15) K dX8_roller_15 rfl ?_
  refine r_iload_n (pc := 16) K dX8_roller_16 rfl ?_
  refine r_if_ne (pc := 17) (tgt := 24) K dX8_roller_17 (by decide) h (fun h _ => ?_) (fun h _ => ?_)
  · refine r_iload (pc := 24) K dX8_roller_24 rfl ?_
    refine r_if_ne (pc := 26) (tgt := 33) K dX8_roller_26 (by decide) h (fun h _ => ?_) (fun h _ => ?_)
    · refine r_iload_n (pc := 33) K dX8_roller_33 rfl ?_
      refine r_aload_n (pc := 34) K dX8_roller_34 rfl ?_
      refine r_iload_n (pc := 35) K dX8_roller_35 rfl ?_
      refine v_int (pc := 36) (st := [.int x2, va_rf (some a0)]) (As := [.int x1]) (b := a0) (ci := 8) (q0 := (RX8, TX8, 29)) K E (fun _ e1 => M_X8_rows K.2.2.2.2.2.2.1 _ _ _ _ e1) h dX8_roller_36 ce_X8_rows cv_X8_rows lk_RX8_99 rfl rfl rfl rfl (by decide) rfl rfl (Nat.le_of_ble_eq_true rfl) rfl rfl (by decide) (by decide) (fun x37 h37 h => ?_)
      refine r_irem (pc := 39) K dX8_roller_39 h (fun h => ?_)
      refine r_if_ne (pc := 40) (tgt := 52) K dX8_roller_40 (by decide) h (fun h _ => ?_) (fun h _ => ?_)
      · exact r_weak (lv2 := [some (va_rf (some a0)), some (.int x1), some (.int x2), none, none, none, none]) ⟨rfl, rfl, rfl, trivial⟩ ((B_X8_roller_b52 K hr E  _ _ _ _ _ h))
      · refine r_aload_n (pc := 43) K dX8_roller_43 rfl ?_
        refine r_getI (pc := 44) K dX8_roller_44 fk_RX8_112 h (fun x38 h => ?_)
        refine r_bipush (pc := 47) (v := 8) K dX8_roller_47 (by decide) ?_
        refine r_icmp_ne (pc := 49) (tgt := 56) K dX8_roller_49 (by decide) h (fun h _ => ?_) (fun h _ => ?_)
        · refine r_iconst (pc := 56) (v := 0) K dX8_roller_56 (by decide) ?_
          exact r_weak (lv2 := [some (va_rf (some a0)), some (.int x1), some (.int x2), none, none, none, none]) ⟨rfl, rfl, rfl, trivial⟩ ((B_X8_roller_b57 K hr E  _ _ _ _ _ _ h))
        · exact r_weak (lv2 := [some (va_rf (some a0)), some (.int x1), some (.int x2), none, none, none, none]) ⟨rfl, rfl, rfl, trivial⟩ ((B_X8_roller_b52 K hr E  _ _ _ _ _ h))
    · refine r_iconst (pc := 29) (v := 2) K dX8_roller_29 (by decide) ?_
      refine r_goto (pc := 30) (tgt := 57) K dX8_roller_30 (by decide) ?_
      exact r_weak (lv2 := [some (va_rf (some a0)), some (.int x1), some (.int x2), none, none, none, none]) ⟨rfl, rfl, rfl, trivial⟩ ((B_X8_roller_b57 K hr E  _ _ _ _ _ _ h))
  · refine r_iconst (pc := 20) (v := 1) K dX8_roller_20 (by decide) ?_
    refine r_goto (pc := 21) (tgt := 57) K dX8_roller_21 (by decide) ?_
    exact r_weak (lv2 := [some (va_rf (some a0)), some (.int x1), some (.int x2), none, none, none, none]) ⟨rfl, rfl, rfl, trivial⟩ ((B_X8_roller_b57 K hr E  _ _ _ _ _ _ h))
def rm_X8_lot : Room := { frames := 1, cells := 0, slots := 0, locals := 22 }
set_option maxRecDepth 100000 in
set_option maxHeartbeats 4000000 in
theorem B_X8_lot_b81 (K : Cx strL D cA h0 p l s m args meth c cX8_lot RX8 7) (hr : meth.sig.returnType = (some .int)) (E : ∀ x ∈ c.exceptionTable.toList, False) {res : (Int32 ⊕ String) × hpT} : ∀ (a0 : Nat) (x1 : Int32) (x2 : Int32) (x3 : Int32) (x4 : Int32) (xs0 : Int32) (as1 : Nat) (hp : hpT), F_X8_lot_b81  a0 x1 x2 x3 x4 xs0 as1 hp = some res → G D cA h0 p l e rm_X8_lot s m args below meth c 7 (vx_MQ below (QI D cA h0 res) (XE D cA h0 res) args s 0 0 (Af h0)) 0 0 hp 81 [some (va_rf (some a0)), some (.int x1), some (.int x2), some (.int x3), some (.int x4), none, none] [.int xs0, va_rf (some as1)] := by
  intro a0 x1 x2 x3 x4 xs0 as1 hp h
  unfold F_X8_lot_b81 at h
  refine v_int (pc := 81) (st := []) (As := [.int xs0]) (b := as1) (ci := 8) (q0 := (RX8, TX8, 29)) K E (fun _ e1 => M_X8_refused K.2.2.2.2.2.2.1 _ _ _ _ e1) h dX8_lot_81 ce_X8_refused cv_X8_refused lk_RX8_84 rfl rfl rfl rfl (by decide) rfl rfl (Nat.le_of_ble_eq_true rfl) rfl rfl (by decide) (by decide) (fun x21 h21 h => ?_)
  refine r_if_eq (pc := 84) (tgt := 89) K dX8_lot_84 (by decide) h (fun h _ => ?_) (fun h _ => ?_)
  · refine r_aload_n (pc := 89) K dX8_lot_89 rfl ?_
    refine r_getI (pc := 90) K dX8_lot_90 fk_RX8_115 h (fun x22 h => ?_)
    refine r_istore (pc := 93) (lv' := [some (va_rf (some a0)), some (.int x1), some (.int x2), some (.int x3), some (.int x4), none, some (.int x22)]) K dX8_lot_93 (by decide) rfl ?_
    refine r_aload_n (pc := 95) K dX8_lot_95 rfl ?_
    refine r_dup (pc := 96) K dX8_lot_96 rfl ?_
    refine r_getI (pc := 97) K dX8_lot_97 fk_RX8_115 h (fun x23 h => ?_)
    refine r_iconst (pc := 100) (v := 1) K dX8_lot_100 (by decide) ?_
    refine r_iadd (pc := 101) K dX8_lot_101 ?_
    refine r_put (pc := 102) K dX8_lot_102 fk_RX8_115 fn_8_10 rfl rfl h (fun h24 h => ?_)
    refine r_aload_n (pc := 105) K dX8_lot_105 rfl ?_
    refine r_getR (pc := 106) K dX8_lot_106 fk_RX8_31 h (fun r25 h => ?_)
    refine r_iload (pc := 109) K dX8_lot_109 rfl ?_
    refine r_iload_n (pc := 111) K dX8_lot_111 rfl ?_
    refine nn_k h (fun a26 hz hq26 => ?_)
    subst hz
    have h := hq26
    refine r_iast (pc := 112) K dX8_lot_112 h (fun h27 h => ?_)
    refine r_aload_n (pc := 113) K dX8_lot_113 rfl ?_
    refine r_getR (pc := 114) K dX8_lot_114 fk_RX8_34 h (fun r28 h => ?_)
    refine r_iload (pc := 117) K dX8_lot_117 rfl ?_
    refine r_iload_n (pc := 119) K dX8_lot_119 rfl ?_
    refine nn_k h (fun a29 hz hq29 => ?_)
    subst hz
    have h := hq29
    refine r_iast (pc := 120) K dX8_lot_120 h (fun h30 h => ?_)
    refine r_aload_n (pc := 121) K dX8_lot_121 rfl ?_
    refine r_getR (pc := 122) K dX8_lot_122 fk_RX8_37 h (fun r31 h => ?_)
    refine r_iload (pc := 125) K dX8_lot_125 rfl ?_
    refine r_iload_n (pc := 127) K dX8_lot_127 rfl ?_
    refine nn_k h (fun a32 hz hq32 => ?_)
    subst hz
    have h := hq32
    refine r_iast (pc := 128) K dX8_lot_128 h (fun h33 h => ?_)
    refine r_aload_n (pc := 129) K dX8_lot_129 rfl ?_
    refine r_getR (pc := 130) K dX8_lot_130 fk_RX8_40 h (fun r34 h => ?_)
    refine r_iload (pc := 133) K dX8_lot_133 rfl ?_
    refine r_iload (pc := 135) K dX8_lot_135 rfl ?_
    refine nn_k h (fun a35 hz hq35 => ?_)
    subst hz
    have h := hq35
    refine r_iast (pc := 137) K dX8_lot_137 h (fun h36 h => ?_)
    refine r_iload (pc := 138) K dX8_lot_138 rfl ?_
    exact r_ireturn (pc := 140) K hr dX8_lot_140 h (by decide) (by decide)
  · refine r_iconst (pc := 87) (v := 0) K dX8_lot_87 (by decide) ?_
    exact r_ireturn (pc := 88) K hr dX8_lot_88 h (by decide) (by decide)
set_option maxRecDepth 100000 in
set_option maxHeartbeats 4000000 in
theorem B_X8_lot_b37 (K : Cx strL D cA h0 p l s m args meth c cX8_lot RX8 7) (hr : meth.sig.returnType = (some .int)) (E : ∀ x ∈ c.exceptionTable.toList, False) {res : (Int32 ⊕ String) × hpT} : ∀ (a0 : Nat) (x1 : Int32) (x2 : Int32) (x3 : Int32) (x4 : Int32) (xs0 : Int32) (hp : hpT), F_X8_lot_b37  a0 x1 x2 x3 x4 xs0 hp = some res → G D cA h0 p l e rm_X8_lot s m args below meth c 7 (vx_MQ below (QI D cA h0 res) (XE D cA h0 res) args s 0 0 (Af h0)) 0 0 hp 37 [some (va_rf (some a0)), some (.int x1), some (.int x2), some (.int x3), some (.int x4), none, none] [.int xs0] := by
  intro a0 x1 x2 x3 x4 xs0 hp h
  unfold F_X8_lot_b37 at h
  refine r_istore (pc := 37) (lv' := [some (va_rf (some a0)), some (.int x1), some (.int x2), some (.int x3), some (.int x4), some (.int xs0), none]) K dX8_lot_37 (by decide) rfl ?_
  refine r_aload_n (pc := 39) K dX8_lot_39 rfl ?_
  refine r_iload_n (pc := 40) K dX8_lot_40 rfl ?_
  refine r_iconst (pc := 41) (v := 0) K dX8_lot_41 (by decide) ?_
  refine r_aload_n (pc := 42) K dX8_lot_42 rfl ?_
  refine r_getI (pc := 43) K dX8_lot_43 fk_RX8_112 h (fun x37 h => ?_)
  refine r_iconst (pc := 46) (v := 1) K dX8_lot_46 (by decide) ?_
  refine r_isub (pc := 47) K dX8_lot_47 ?_
  refine s_int (pc := 48) (st := [va_rf (some a0)]) (As := [.int x1, .int 0, .int (x37 - 1)]) K E (fun _ e1 => M_X8_is K.2.2.2.2.2.2.1 _ _ _ _ _ e1) h dX8_lot_48 ce_X8_is cs_X8_is lk_RX8_80 rfl rfl (by decide) rfl rfl (Nat.le_of_ble_eq_true rfl) rfl rfl (by decide) (by decide) (fun x38 h38 h => ?_)
  refine r_if_ne (pc := 51) (tgt := 58) K dX8_lot_51 (by decide) h (fun h _ => ?_) (fun h _ => ?_)
  · refine r_iload (pc := 58) K dX8_lot_58 rfl ?_
    refine r_if_ne (pc := 60) (tgt := 67) K dX8_lot_60 (by decide) h (fun h _ => ?_) (fun h _ => ?_)
    · refine r_aload_n (pc := 67) K dX8_lot_67 rfl ?_
      refine r_getI (pc := 68) K dX8_lot_68 fk_RX8_115 h (fun x39 h => ?_)
      refine r_bipush (pc := 71) (v := 10) K dX8_lot_71 (by decide) ?_
      refine r_icmp_ne (pc := 73) (tgt := 80) K dX8_lot_73 (by decide) h (fun h _ => ?_) (fun h _ => ?_)
      · refine r_iconst (pc := 80) (v := 0) K dX8_lot_80 (by decide) ?_
        exact r_weak (lv2 := [some (va_rf (some a0)), some (.int x1), some (.int x2), some (.int x3), some (.int x4), none, none]) ⟨rfl, rfl, rfl, rfl, rfl, trivial⟩ ((B_X8_lot_b81 K hr E  _ _ _ _ _ _ _ _ h))
      · refine r_iconst (pc := 76) (v := 3) K dX8_lot_76 (by decide) ?_
        refine r_goto (pc := 77) (tgt := 81) K dX8_lot_77 (by decide) ?_
        exact r_weak (lv2 := [some (va_rf (some a0)), some (.int x1), some (.int x2), some (.int x3), some (.int x4), none, none]) ⟨rfl, rfl, rfl, rfl, rfl, trivial⟩ ((B_X8_lot_b81 K hr E  _ _ _ _ _ _ _ _ h))
    · refine r_iconst (pc := 63) (v := 2) K dX8_lot_63 (by decide) ?_
      refine r_goto (pc := 64) (tgt := 81) K dX8_lot_64 (by decide) ?_
      exact r_weak (lv2 := [some (va_rf (some a0)), some (.int x1), some (.int x2), some (.int x3), some (.int x4), none, none]) ⟨rfl, rfl, rfl, rfl, rfl, trivial⟩ ((B_X8_lot_b81 K hr E  _ _ _ _ _ _ _ _ h))
  · refine r_iconst (pc := 54) (v := 1) K dX8_lot_54 (by decide) ?_
    refine r_goto (pc := 55) (tgt := 81) K dX8_lot_55 (by decide) ?_
    exact r_weak (lv2 := [some (va_rf (some a0)), some (.int x1), some (.int x2), some (.int x3), some (.int x4), none, none]) ⟨rfl, rfl, rfl, rfl, rfl, trivial⟩ ((B_X8_lot_b81 K hr E  _ _ _ _ _ _ _ _ h))
set_option maxRecDepth 100000 in
set_option maxHeartbeats 4000000 in
theorem B_X8_lot_b36 (K : Cx strL D cA h0 p l s m args meth c cX8_lot RX8 7) (hr : meth.sig.returnType = (some .int)) (E : ∀ x ∈ c.exceptionTable.toList, False) {res : (Int32 ⊕ String) × hpT} : ∀ (a0 : Nat) (x1 : Int32) (x2 : Int32) (x3 : Int32) (x4 : Int32) (hp : hpT), F_X8_lot_b36  a0 x1 x2 x3 x4 hp = some res → G D cA h0 p l e rm_X8_lot s m args below meth c 7 (vx_MQ below (QI D cA h0 res) (XE D cA h0 res) args s 0 0 (Af h0)) 0 0 hp 36 [some (va_rf (some a0)), some (.int x1), some (.int x2), some (.int x3), some (.int x4), none, none] [] := by
  intro a0 x1 x2 x3 x4 hp h
  unfold F_X8_lot_b36 at h
  refine r_iconst (pc := 36) (v := 0) K dX8_lot_36 (by decide) ?_
  exact r_weak (lv2 := [some (va_rf (some a0)), some (.int x1), some (.int x2), some (.int x3), some (.int x4), none, none]) ⟨rfl, rfl, rfl, rfl, rfl, trivial⟩ ((B_X8_lot_b37 K hr E  _ _ _ _ _ _ _ h))
set_option maxRecDepth 100000 in
set_option maxHeartbeats 4000000 in
theorem M_X8_lot {D : va_G} {cA : Nat → ClassId} {h0 : Nat} {l : Launch} (hl : l.stackTraces = false) (a0 : Nat) (x1 : Int32) (x2 : Int32) (x3 : Int32) (x4 : Int32) (hp : hpT) (res : (Int32 ⊕ String) × hpT) (h : F_X8_lot a0 x1 x2 x3 x4 hp = some res) : vx_Met l yX8_lot (wsm yX8_lot cX8_lot 7 (some .int)) rm_X8_lot (va_Pc [va_rf (some a0), .int x1, .int x2, .int x3, .int x4] (Pre strL D cA h0 hp)) (QI D cA h0 res) (XE D cA h0 res) 0 0 (Af h0) := by
  unfold F_X8_lot at h
  refine g_entry (by decide +kernel) hl (cat_c rfl (cat_c rfl (cat_c rfl (cat_c rfl (cat_c rfl (cat_n)))))) (Nat.le_of_ble_eq_true rfl) (lv := [some (va_rf (some a0)), some (.int x1), some (.int x2), some (.int x3), some (.int x4), none, none]) rfl ?_
  intro p e s m args below meth c K hr E hn
  have K : Cx strL D cA h0 p l s m args meth c cX8_lot RX8 7 := K
  refine r_iload_n (pc := 0) K dX8_lot_0 rfl ?_
  refine r_iconst (pc := 1) (v := 0) K dX8_lot_1 (by decide) ?_
  refine r_bipush (pc := 2) (v := 9) K dX8_lot_2 (by decide) ?_
  refine s_int (pc := 4) (st := []) (As := [.int x2, .int 0, .int 9]) K E (fun _ e1 => M_X8_is K.2.2.2.2.2.2.1 _ _ _ _ _ e1) h dX8_lot_4 ce_X8_is cs_X8_is lk_RX8_80 rfl rfl (by decide) rfl rfl (Nat.le_of_ble_eq_true rfl) rfl rfl (by decide) (by decide) (fun x40 h40 h => ?_)
  refine r_if_eq (pc := 7) (tgt := 36) K dX8_lot_7 (by decide) h (fun h _ => ?_) (fun h _ => ?_)
  · exact r_weak (lv2 := [some (va_rf (some a0)), some (.int x1), some (.int x2), some (.int x3), some (.int x4), none, none]) ⟨rfl, rfl, rfl, rfl, rfl, trivial⟩ ((B_X8_lot_b36 K hr E  _ _ _ _ _ _ h))
  · refine r_iload_n (pc := 10) K dX8_lot_10 rfl ?_
    refine r_iconst (pc := 11) (v := 1) K dX8_lot_11 (by decide) ?_
    refine r_bipush (pc := 12) (v := 20) K dX8_lot_12 (by decide) ?_
    refine s_int (pc := 14) (st := []) (As := [.int x3, .int 1, .int 20]) K E (fun _ e1 => M_X8_is K.2.2.2.2.2.2.1 _ _ _ _ _ e1) h dX8_lot_14 ce_X8_is cs_X8_is lk_RX8_80 rfl rfl (by decide) rfl rfl (Nat.le_of_ble_eq_true rfl) rfl rfl (by decide) (by decide) (fun x41 h41 h => ?_)
    refine r_if_eq (pc := 17) (tgt := 36) K dX8_lot_17 (by decide) h (fun h _ => ?_) (fun h _ => ?_)
    · exact r_weak (lv2 := [some (va_rf (some a0)), some (.int x1), some (.int x2), some (.int x3), some (.int x4), none, none]) ⟨rfl, rfl, rfl, rfl, rfl, trivial⟩ ((B_X8_lot_b36 K hr E  _ _ _ _ _ _ h))
    · refine r_iload (pc := 20) K dX8_lot_20 rfl ?_
      refine r_iconst (pc := 22) (v := 1) K dX8_lot_22 (by decide) ?_
      refine r_sipush (pc := 23) (v := 200) K dX8_lot_23 (by decide) ?_
      refine s_int (pc := 26) (st := []) (As := [.int x4, .int 1, .int 200]) K E (fun _ e1 => M_X8_is K.2.2.2.2.2.2.1 _ _ _ _ _ e1) h dX8_lot_26 ce_X8_is cs_X8_is lk_RX8_80 rfl rfl (by decide) rfl rfl (Nat.le_of_ble_eq_true rfl) rfl rfl (by decide) (by decide) (fun x42 h42 h => ?_)
      refine r_if_eq (pc := 29) (tgt := 36) K dX8_lot_29 (by decide) h (fun h _ => ?_) (fun h _ => ?_)
      · exact r_weak (lv2 := [some (va_rf (some a0)), some (.int x1), some (.int x2), some (.int x3), some (.int x4), none, none]) ⟨rfl, rfl, rfl, rfl, rfl, trivial⟩ ((B_X8_lot_b36 K hr E  _ _ _ _ _ _ h))
      · refine r_iconst (pc := 32) (v := 1) K dX8_lot_32 (by decide) ?_
        refine r_goto (pc := 33) (tgt := 37) K dX8_lot_33 (by decide) ?_
        exact r_weak (lv2 := [some (va_rf (some a0)), some (.int x1), some (.int x2), some (.int x3), some (.int x4), none, none]) ⟨rfl, rfl, rfl, rfl, rfl, trivial⟩ ((B_X8_lot_b37 K hr E  _ _ _ _ _ _ _ h))
def rm_X8_lotOf : Room := { frames := 1, cells := 0, slots := 0, locals := 22 }
set_option maxRecDepth 100000 in
set_option maxHeartbeats 4000000 in
theorem B_X8_lotOf_b33 (K : Cx strL D cA h0 p l s m args meth c cX8_lotOf RX8 4) (hr : meth.sig.returnType = (some .int)) (E : ∀ x ∈ c.exceptionTable.toList, False) {res : (Int32 ⊕ String) × hpT} : ∀ (a0 : Nat) (x1 : Int32) (x2 : Int32) (xs0 : Int32) (as1 : Nat) (hp : hpT), F_X8_lotOf_b33  a0 x1 x2 xs0 as1 hp = some res → G D cA h0 p l e rm_X8_lotOf s m args below meth c 4 (vx_MQ below (QI D cA h0 res) (XE D cA h0 res) args s 0 0 (Af h0)) 0 0 hp 33 [some (va_rf (some a0)), some (.int x1), some (.int x2), none] [.int xs0, va_rf (some as1)] := by
  intro a0 x1 x2 xs0 as1 hp h
  unfold F_X8_lotOf_b33 at h
  refine v_int (pc := 33) (st := []) (As := [.int xs0]) (b := as1) (ci := 8) (q0 := (RX8, TX8, 29)) K E (fun _ e1 => M_X8_refused K.2.2.2.2.2.2.1 _ _ _ _ e1) h dX8_lotOf_33 ce_X8_refused cv_X8_refused lk_RX8_84 rfl rfl rfl rfl (by decide) rfl rfl (Nat.le_of_ble_eq_true rfl) rfl rfl (by decide) (by decide) (fun x21 h21 h => ?_)
  refine r_if_eq (pc := 36) (tgt := 41) K dX8_lotOf_36 (by decide) h (fun h _ => ?_) (fun h _ => ?_)
  · refine r_iload_n (pc := 41) K dX8_lotOf_41 rfl ?_
    refine r_iconst (pc := 42) (v := 4) K dX8_lotOf_42 (by decide) ?_
    refine r_icmp_ge (pc := 43) (tgt := 94) K dX8_lotOf_43 (by decide) h (fun h _ => ?_) (fun h _ => ?_)
    · refine r_aload_n (pc := 94) K dX8_lotOf_94 rfl ?_
      refine r_getR (pc := 95) K dX8_lotOf_95 fk_RX8_25 h (fun r22 h => ?_)
      refine r_aload_n (pc := 98) K dX8_lotOf_98 rfl ?_
      refine r_getR (pc := 99) K dX8_lotOf_99 fk_RX8_31 h (fun r23 h => ?_)
      refine r_iload_n (pc := 102) K dX8_lotOf_102 rfl ?_
      refine nn_k h (fun a24 hz hq24 => ?_)
      subst hz
      have h := hq24
      refine r_iald (pc := 103) K dX8_lotOf_103 h (fun x25 h => ?_)
      refine nn_k h (fun a26 hz hq26 => ?_)
      subst hz
      have h := hq26
      refine r_iald (pc := 104) K dX8_lotOf_104 h (fun x27 h => ?_)
      refine r_istore_n (pc := 105) (lv' := [some (va_rf (some a0)), some (.int x1), some (.int x2), some (.int x27)]) K dX8_lotOf_105 (by decide) rfl ?_
      refine r_aload_n (pc := 106) K dX8_lotOf_106 rfl ?_
      refine r_getR (pc := 107) K dX8_lotOf_107 fk_RX8_40 h (fun r28 h => ?_)
      refine r_iload_n (pc := 110) K dX8_lotOf_110 rfl ?_
      refine nn_k h (fun a29 hz hq29 => ?_)
      subst hz
      have h := hq29
      refine r_iald (pc := 111) K dX8_lotOf_111 h (fun x30 h => ?_)
      refine r_iload_n (pc := 112) K dX8_lotOf_112 rfl ?_
      refine r_iadd (pc := 113) K dX8_lotOf_113 ?_
      refine r_iconst (pc := 114) (v := 1) K dX8_lotOf_114 (by decide) ?_
      refine r_isub (pc := 115) K dX8_lotOf_115 ?_
      refine r_iload_n (pc := 116) K dX8_lotOf_116 rfl ?_
      refine r_idiv (pc := 117) K dX8_lotOf_117 h (fun h => ?_)
      exact r_ireturn (pc := 118) K hr dX8_lotOf_118 h (by decide) (by decide)
    · refine r_iload_n (pc := 46) K dX8_lotOf_46 rfl ?_
      refine r_if_ne (pc := 47) (tgt := 59) K dX8_lotOf_47 (by decide) h (fun h _ => ?_) (fun h _ => ?_)
      · refine r_iload_n (pc := 59) K dX8_lotOf_59 rfl ?_
        refine r_iconst (pc := 60) (v := 1) K dX8_lotOf_60 (by decide) ?_
        refine r_icmp_ne (pc := 61) (tgt := 73) K dX8_lotOf_61 (by decide) h (fun h _ => ?_) (fun h _ => ?_)
        · refine r_iload_n (pc := 73) K dX8_lotOf_73 rfl ?_
          refine r_iconst (pc := 74) (v := 2) K dX8_lotOf_74 (by decide) ?_
          refine r_icmp_ne (pc := 75) (tgt := 87) K dX8_lotOf_75 (by decide) h (fun h _ => ?_) (fun h _ => ?_)
          · refine r_aload_n (pc := 87) K dX8_lotOf_87 rfl ?_
            refine r_getR (pc := 88) K dX8_lotOf_88 fk_RX8_40 h (fun r31 h => ?_)
            refine r_iload_n (pc := 91) K dX8_lotOf_91 rfl ?_
            refine nn_k h (fun a32 hz hq32 => ?_)
            subst hz
            have h := hq32
            refine r_iald (pc := 92) K dX8_lotOf_92 h (fun x33 h => ?_)
            exact r_ireturn (pc := 93) K hr dX8_lotOf_93 h (by decide) (by decide)
          · refine r_aload_n (pc := 78) K dX8_lotOf_78 rfl ?_
            refine r_getR (pc := 79) K dX8_lotOf_79 fk_RX8_37 h (fun r34 h => ?_)
            refine r_iload_n (pc := 82) K dX8_lotOf_82 rfl ?_
            refine nn_k h (fun a35 hz hq35 => ?_)
            subst hz
            have h := hq35
            refine r_iald (pc := 83) K dX8_lotOf_83 h (fun x36 h => ?_)
            refine r_goto (pc := 84) (tgt := 93) K dX8_lotOf_84 (by decide) ?_
            exact r_ireturn (pc := 93) K hr dX8_lotOf_93 h (by decide) (by decide)
        · refine r_aload_n (pc := 64) K dX8_lotOf_64 rfl ?_
          refine r_getR (pc := 65) K dX8_lotOf_65 fk_RX8_34 h (fun r37 h => ?_)
          refine r_iload_n (pc := 68) K dX8_lotOf_68 rfl ?_
          refine nn_k h (fun a38 hz hq38 => ?_)
          subst hz
          have h := hq38
          refine r_iald (pc := 69) K dX8_lotOf_69 h (fun x39 h => ?_)
          refine r_goto (pc := 70) (tgt := 93) K dX8_lotOf_70 (by decide) ?_
          exact r_ireturn (pc := 93) K hr dX8_lotOf_93 h (by decide) (by decide)
      · refine r_aload_n (pc := 50) K dX8_lotOf_50 rfl ?_
        refine r_getR (pc := 51) K dX8_lotOf_51 fk_RX8_31 h (fun r40 h => ?_)
        refine r_iload_n (pc := 54) K dX8_lotOf_54 rfl ?_
        refine nn_k h (fun a41 hz hq41 => ?_)
        subst hz
        have h := hq41
        refine r_iald (pc := 55) K dX8_lotOf_55 h (fun x42 h => ?_)
        refine r_goto (pc := 56) (tgt := 93) K dX8_lotOf_56 (by decide) ?_
        exact r_ireturn (pc := 93) K hr dX8_lotOf_93 h (by decide) (by decide)
  · refine r_iconst (pc := 39) (v := 0) K dX8_lotOf_39 (by decide) ?_
    exact r_ireturn (pc := 40) K hr dX8_lotOf_40 h (by decide) (by decide)
set_option maxRecDepth 100000 in
set_option maxHeartbeats 4000000 in
theorem M_X8_lotOf {D : va_G} {cA : Nat → ClassId} {h0 : Nat} {l : Launch} (hl : l.stackTraces = false) (a0 : Nat) (x1 : Int32) (x2 : Int32) (hp : hpT) (res : (Int32 ⊕ String) × hpT) (h : F_X8_lotOf a0 x1 x2 hp = some res) : vx_Met l yX8_lotOf (wsm yX8_lotOf cX8_lotOf 4 (some .int)) rm_X8_lotOf (va_Pc [va_rf (some a0), .int x1, .int x2] (Pre strL D cA h0 hp)) (QI D cA h0 res) (XE D cA h0 res) 0 0 (Af h0) := by
  unfold F_X8_lotOf at h
  refine g_entry (by decide +kernel) hl (cat_c rfl (cat_c rfl (cat_c rfl (cat_n)))) (Nat.le_of_ble_eq_true rfl) (lv := [some (va_rf (some a0)), some (.int x1), some (.int x2), none]) rfl ?_
  intro p e s m args below meth c K hr E hn
  have K : Cx strL D cA h0 p l s m args meth c cX8_lotOf RX8 4 := K
  refine r_aload_n (pc := 0) K dX8_lotOf_0 rfl ?_
  refine r_iload_n (pc := 1) K dX8_lotOf_1 rfl ?_
  refine r_iconst (pc := 2) (v := 0) K dX8_lotOf_2 (by decide) ?_
  refine r_aload_n (pc := 3) K dX8_lotOf_3 rfl ?_
  refine r_getI (pc := 4) K dX8_lotOf_4 fk_RX8_115 h (fun x43 h => ?_)
  refine r_iconst (pc := 7) (v := 1) K dX8_lotOf_7 (by decide) ?_
  refine r_isub (pc := 8) K dX8_lotOf_8 ?_
  refine s_int (pc := 9) (st := [va_rf (some a0)]) (As := [.int x1, .int 0, .int (x43 - 1)]) K E (fun _ e1 => M_X8_is K.2.2.2.2.2.2.1 _ _ _ _ _ e1) h dX8_lotOf_9 ce_X8_is cs_X8_is lk_RX8_80 rfl rfl (by decide) rfl rfl (Nat.le_of_ble_eq_true rfl) rfl rfl (by decide) (by decide) (fun x44 h44 h => ?_)
  refine r_if_ne (pc := 12) (tgt := 19) K dX8_lotOf_12 (by decide) h (fun h _ => ?_) (fun h _ => ?_)
  · refine r_iload_n (pc := 19) K dX8_lotOf_19 rfl ?_
    refine r_iconst (pc := 20) (v := 0) K dX8_lotOf_20 (by decide) ?_
    refine r_iconst (pc := 21) (v := 4) K dX8_lotOf_21 (by decide) ?_
    refine s_int (pc := 22) (st := [va_rf (some a0)]) (As := [.int x2, .int 0, .int 4]) K E (fun _ e1 => M_X8_is K.2.2.2.2.2.2.1 _ _ _ _ _ e1) h dX8_lotOf_22 ce_X8_is cs_X8_is lk_RX8_80 rfl rfl (by decide) rfl rfl (Nat.le_of_ble_eq_true rfl) rfl rfl (by decide) (by decide) (fun x45 h45 h => ?_)
    refine r_if_ne (pc := 25) (tgt := 32) K dX8_lotOf_25 (by decide) h (fun h _ => ?_) (fun h _ => ?_)
    · refine r_iconst (pc := 32) (v := 0) K dX8_lotOf_32 (by decide) ?_
      exact r_weak (lv2 := [some (va_rf (some a0)), some (.int x1), some (.int x2), none]) ⟨rfl, rfl, rfl, trivial⟩ ((B_X8_lotOf_b33 K hr E  _ _ _ _ _ _ h))
    · refine r_iconst (pc := 28) (v := 2) K dX8_lotOf_28 (by decide) ?_
      refine r_goto (pc := 29) (tgt := 33) K dX8_lotOf_29 (by decide) ?_
      exact r_weak (lv2 := [some (va_rf (some a0)), some (.int x1), some (.int x2), none]) ⟨rfl, rfl, rfl, trivial⟩ ((B_X8_lotOf_b33 K hr E  _ _ _ _ _ _ h))
  · refine r_iconst (pc := 15) (v := 1) K dX8_lotOf_15 (by decide) ?_
    refine r_goto (pc := 16) (tgt := 33) K dX8_lotOf_16 (by decide) ?_
    exact r_weak (lv2 := [some (va_rf (some a0)), some (.int x1), some (.int x2), none]) ⟨rfl, rfl, rfl, trivial⟩ ((B_X8_lotOf_b33 K hr E  _ _ _ _ _ _ h))
def rm_X8_rowsOfLot : Room := { frames := 1, cells := 0, slots := 0, locals := 21 }
set_option maxRecDepth 100000 in
set_option maxHeartbeats 4000000 in
theorem M_X8_rowsOfLot {D : va_G} {cA : Nat → ClassId} {h0 : Nat} {l : Launch} (hl : l.stackTraces = false) (a0 : Nat) (x1 : Int32) (hp : hpT) (res : (Int32 ⊕ String) × hpT) (h : F_X8_rowsOfLot a0 x1 hp = some res) : vx_Met l yX8_rowsOfLot (wsm yX8_rowsOfLot cX8_rowsOfLot 2 (some .int)) rm_X8_rowsOfLot (va_Pc [va_rf (some a0), .int x1] (Pre strL D cA h0 hp)) (QI D cA h0 res) (XE D cA h0 res) 0 0 (Af h0) := by
  unfold F_X8_rowsOfLot at h
  refine g_entry (by decide +kernel) hl (cat_c rfl (cat_c rfl (cat_n))) (Nat.le_of_ble_eq_true rfl) (lv := [some (va_rf (some a0)), some (.int x1)]) rfl ?_
  intro p e s m args below meth c K hr E hn
  have K : Cx strL D cA h0 p l s m args meth c cX8_rowsOfLot RX8 2 := K
  refine r_aload_n (pc := 0) K dX8_rowsOfLot_0 rfl ?_
  refine r_aload_n (pc := 1) K dX8_rowsOfLot_1 rfl ?_
  refine r_getR (pc := 2) K dX8_rowsOfLot_2 fk_RX8_22 h (fun r21 h => ?_)
  refine r_aload_n (pc := 5) K dX8_rowsOfLot_5 rfl ?_
  refine r_getR (pc := 6) K dX8_rowsOfLot_6 fk_RX8_31 h (fun r22 h => ?_)
  refine r_iload_n (pc := 9) K dX8_rowsOfLot_9 rfl ?_
  refine nn_k h (fun a23 hz hq23 => ?_)
  subst hz
  have h := hq23
  refine r_iald (pc := 10) K dX8_rowsOfLot_10 h (fun x24 h => ?_)
  refine nn_k h (fun a25 hz hq25 => ?_)
  subst hz
  have h := hq25
  refine r_iald (pc := 11) K dX8_rowsOfLot_11 h (fun x26 h => ?_)
  refine v_int (pc := 12) (st := []) (As := [.int x26]) (b := a0) (ci := 8) (q0 := (RX8, TX8, 29)) K E (fun _ e1 => M_X8_rows K.2.2.2.2.2.2.1 _ _ _ _ e1) h dX8_rowsOfLot_12 ce_X8_rows cv_X8_rows lk_RX8_99 rfl rfl rfl rfl (by decide) rfl rfl (Nat.le_of_ble_eq_true rfl) rfl rfl (by decide) (by decide) (fun x27 h27 h => ?_)
  exact r_ireturn (pc := 15) K hr dX8_rowsOfLot_15 h (by decide) (by decide)
def rm_X8_isRoom : Room := { frames := 1, cells := 0, slots := 0, locals := 22 }
set_option maxRecDepth 100000 in
set_option maxHeartbeats 4000000 in
theorem M_X8_isRoom {D : va_G} {cA : Nat → ClassId} {h0 : Nat} {l : Launch} (hl : l.stackTraces = false) (x0 : Int32) (hp : hpT) (res : (Int32 ⊕ String) × hpT) (h : F_X8_isRoom x0 hp = some res) : vx_Met l yX8_isRoom (wsm yX8_isRoom cX8_isRoom 1 (some .boolean)) rm_X8_isRoom (va_Pc [.int x0] (Pre strL D cA h0 hp)) (QI D cA h0 res) (XE D cA h0 res) 0 0 (Af h0) := by
  unfold F_X8_isRoom at h
  refine g_entry (by decide +kernel) hl (cat_c rfl (cat_n)) (Nat.le_of_ble_eq_true rfl) (lv := [some (.int x0)]) rfl ?_
  intro p e s m args below meth c K hr E hn
  have K : Cx strL D cA h0 p l s m args meth c cX8_isRoom RX8 1 := K
  refine r_iload_n (pc := 0) K dX8_isRoom_0 rfl ?_
  refine r_iconst (pc := 1) (v := 0) K dX8_isRoom_1 (by decide) ?_
  refine r_iconst (pc := 2) (v := 3) K dX8_isRoom_2 (by decide) ?_
  refine s_int (pc := 3) (st := []) (As := [.int x0, .int 0, .int 3]) K E (fun _ e1 => M_X8_is K.2.2.2.2.2.2.1 _ _ _ _ _ e1) h dX8_isRoom_3 ce_X8_is cs_X8_is lk_RX8_80 rfl rfl (by decide) rfl rfl (Nat.le_of_ble_eq_true rfl) rfl rfl (by decide) (by decide) (fun x21 h21 h => ?_)
  exact r_zreturn (pc := 6) K hr dX8_isRoom_6 h (by decide) (by decide)
def rm_X8_isHung : Room := { frames := 0, cells := 0, slots := 0, locals := 0 }
set_option maxRecDepth 100000 in
set_option maxHeartbeats 4000000 in
theorem M_X8_isHung {D : va_G} {cA : Nat → ClassId} {h0 : Nat} {l : Launch} (hl : l.stackTraces = false) (a0 : Nat) (x1 : Int32) (hp : hpT) (res : (Int32 ⊕ String) × hpT) (h : F_X8_isHung a0 x1 hp = some res) : vx_Met l yX8_isHung (wsm yX8_isHung cX8_isHung 2 (some .boolean)) rm_X8_isHung (va_Pc [va_rf (some a0), .int x1] (Pre strL D cA h0 hp)) (QI D cA h0 res) (XE D cA h0 res) 0 0 (Af h0) := by
  unfold F_X8_isHung at h
  refine g_entry (by decide +kernel) hl (cat_c rfl (cat_c rfl (cat_n))) (Nat.le_of_ble_eq_true rfl) (lv := [some (va_rf (some a0)), some (.int x1)]) rfl ?_
  intro p e s m args below meth c K hr E hn
  have K : Cx strL D cA h0 p l s m args meth c cX8_isHung RX8 2 := K
  refine r_aload_n (pc := 0) K dX8_isHung_0 rfl ?_
  refine r_getR (pc := 1) K dX8_isHung_1 fk_RX8_52 h (fun r21 h => ?_)
  refine r_iload_n (pc := 4) K dX8_isHung_4 rfl ?_
  refine nn_k h (fun a22 hz hq22 => ?_)
  subst hz
  have h := hq22
  refine r_iald (pc := 5) K dX8_isHung_5 h (fun x23 h => ?_)
  refine r_iconst (pc := 6) (v := (-1)) K dX8_isHung_6 (by decide) ?_
  refine r_icmp_eq (pc := 7) (tgt := 14) K dX8_isHung_7 (by decide) h (fun h _ => ?_) (fun h _ => ?_)
  · refine r_iconst (pc := 14) (v := 0) K dX8_isHung_14 (by decide) ?_
    exact r_zreturn (pc := 15) K hr dX8_isHung_15 h (by decide) (by decide)
  · refine r_iconst (pc := 10) (v := 1) K dX8_isHung_10 (by decide) ?_
    refine r_goto (pc := 11) (tgt := 15) K dX8_isHung_11 (by decide) ?_
    exact r_zreturn (pc := 15) K hr dX8_isHung_15 h (by decide) (by decide)
def rm_X8_wall : Room := { frames := 2, cells := 0, slots := 0, locals := 42 }
set_option maxRecDepth 100000 in
set_option maxHeartbeats 4000000 in
theorem B_X8_wall_b71 (K : Cx strL D cA h0 p l s m args meth c cX8_wall RX8 6) (hr : meth.sig.returnType = (some .int)) (E : ∀ x ∈ c.exceptionTable.toList, False) {res : (Int32 ⊕ String) × hpT} : ∀ (a0 : Nat) (x1 : Int32) (x2 : Int32) (x3 : Int32) (xs0 : Int32) (as1 : Nat) (hp : hpT), F_X8_wall_b71  a0 x1 x2 x3 xs0 as1 hp = some res → G D cA h0 p l e rm_X8_wall s m args below meth c 6 (vx_MQ below (QI D cA h0 res) (XE D cA h0 res) args s 0 0 (Af h0)) 0 0 hp 71 [some (va_rf (some a0)), some (.int x1), some (.int x2), some (.int x3), none, none] [.int xs0, va_rf (some as1)] := by
  intro a0 x1 x2 x3 xs0 as1 hp h
  unfold F_X8_wall_b71 at h
  refine v_int (pc := 71) (st := []) (As := [.int xs0]) (b := as1) (ci := 8) (q0 := (RX8, TX8, 29)) K E (fun _ e1 => M_X8_refused K.2.2.2.2.2.2.1 _ _ _ _ e1) h dX8_wall_71 ce_X8_refused cv_X8_refused lk_RX8_84 rfl rfl rfl rfl (by decide) rfl rfl (Nat.le_of_ble_eq_true rfl) rfl rfl (by decide) (by decide) (fun x21 h21 h => ?_)
  refine r_if_eq (pc := 74) (tgt := 79) K dX8_wall_74 (by decide) h (fun h _ => ?_) (fun h _ => ?_)
  · refine r_iconst (pc := 79) (v := 4) K dX8_wall_79 (by decide) ?_
    refine r_iload_n (pc := 80) K dX8_wall_80 rfl ?_
    refine r_imul (pc := 81) K dX8_wall_81 ?_
    refine r_aload_n (pc := 82) K dX8_wall_82 rfl ?_
    refine r_getR (pc := 83) K dX8_wall_83 fk_RX8_43 h (fun r22 h => ?_)
    refine r_iload_n (pc := 86) K dX8_wall_86 rfl ?_
    refine nn_k h (fun a23 hz hq23 => ?_)
    subst hz
    have h := hq23
    refine r_iald (pc := 87) K dX8_wall_87 h (fun x24 h => ?_)
    refine r_iadd (pc := 88) K dX8_wall_88 ?_
    refine r_istore (pc := 89) (lv' := [some (va_rf (some a0)), some (.int x1), some (.int x2), some (.int x3), none, some (.int ((4 * x1) + x24))]) K dX8_wall_89 (by decide) rfl ?_
    refine r_aload_n (pc := 91) K dX8_wall_91 rfl ?_
    refine r_getR (pc := 92) K dX8_wall_92 fk_RX8_46 h (fun r25 h => ?_)
    refine r_iload (pc := 95) K dX8_wall_95 rfl ?_
    refine r_iload_n (pc := 97) K dX8_wall_97 rfl ?_
    refine nn_k h (fun a26 hz hq26 => ?_)
    subst hz
    have h := hq26
    refine r_iast (pc := 98) K dX8_wall_98 h (fun h27 h => ?_)
    refine r_aload_n (pc := 99) K dX8_wall_99 rfl ?_
    refine r_getR (pc := 100) K dX8_wall_100 fk_RX8_49 h (fun r28 h => ?_)
    refine r_iload (pc := 103) K dX8_wall_103 rfl ?_
    refine r_iload_n (pc := 105) K dX8_wall_105 rfl ?_
    refine nn_k h (fun a29 hz hq29 => ?_)
    subst hz
    have h := hq29
    refine r_iast (pc := 106) K dX8_wall_106 h (fun h30 h => ?_)
    refine r_aload_n (pc := 107) K dX8_wall_107 rfl ?_
    refine r_getR (pc := 108) K dX8_wall_108 fk_RX8_43 h (fun r31 h => ?_)
    refine r_iload_n (pc := 111) K dX8_wall_111 rfl ?_
    refine r_dup2 (pc := 112) K dX8_wall_112 rfl (va_rf_cat _) ?_
    refine nn_k h (fun a32 hz hq32 => ?_)
    subst hz
    have h := hq32
    refine r_iald (pc := 113) K dX8_wall_113 h (fun x33 h => ?_)
    refine r_iconst (pc := 114) (v := 1) K dX8_wall_114 (by decide) ?_
    refine r_iadd (pc := 115) K dX8_wall_115 ?_
    refine r_iast (pc := 116) K dX8_wall_116 h (fun h34 h => ?_)
    refine r_aload_n (pc := 117) K dX8_wall_117 rfl ?_
    refine r_getR (pc := 118) K dX8_wall_118 fk_RX8_43 h (fun r35 h => ?_)
    refine r_iload_n (pc := 121) K dX8_wall_121 rfl ?_
    refine nn_k h (fun a36 hz hq36 => ?_)
    subst hz
    have h := hq36
    refine r_iald (pc := 122) K dX8_wall_122 h (fun x37 h => ?_)
    refine r_iconst (pc := 123) (v := 1) K dX8_wall_123 (by decide) ?_
    refine r_isub (pc := 124) K dX8_wall_124 ?_
    exact r_ireturn (pc := 125) K hr dX8_wall_125 h (by decide) (by decide)
  · refine r_iconst (pc := 77) (v := 0) K dX8_wall_77 (by decide) ?_
    exact r_ireturn (pc := 78) K hr dX8_wall_78 h (by decide) (by decide)
set_option maxRecDepth 100000 in
set_option maxHeartbeats 4000000 in
theorem B_X8_wall_b66 (K : Cx strL D cA h0 p l s m args meth c cX8_wall RX8 6) (hr : meth.sig.returnType = (some .int)) (E : ∀ x ∈ c.exceptionTable.toList, False) {res : (Int32 ⊕ String) × hpT} : ∀ (a0 : Nat) (x1 : Int32) (x2 : Int32) (x3 : Int32) (as0 : Nat) (hp : hpT), F_X8_wall_b66  a0 x1 x2 x3 as0 hp = some res → G D cA h0 p l e rm_X8_wall s m args below meth c 6 (vx_MQ below (QI D cA h0 res) (XE D cA h0 res) args s 0 0 (Af h0)) 0 0 hp 66 [some (va_rf (some a0)), some (.int x1), some (.int x2), some (.int x3), none, none] [va_rf (some as0)] := by
  intro a0 x1 x2 x3 as0 hp h
  unfold F_X8_wall_b66 at h
  refine r_iconst (pc := 66) (v := 3) K dX8_wall_66 (by decide) ?_
  refine r_goto (pc := 67) (tgt := 71) K dX8_wall_67 (by decide) ?_
  exact r_weak (lv2 := [some (va_rf (some a0)), some (.int x1), some (.int x2), some (.int x3), none, none]) ⟨rfl, rfl, rfl, rfl, trivial⟩ ((B_X8_wall_b71 K hr E  _ _ _ _ _ _ _ h))
set_option maxRecDepth 100000 in
set_option maxHeartbeats 4000000 in
theorem B_X8_wall_b25 (K : Cx strL D cA h0 p l s m args meth c cX8_wall RX8 6) (hr : meth.sig.returnType = (some .int)) (E : ∀ x ∈ c.exceptionTable.toList, False) {res : (Int32 ⊕ String) × hpT} : ∀ (a0 : Nat) (x1 : Int32) (x2 : Int32) (x3 : Int32) (xs0 : Int32) (hp : hpT), F_X8_wall_b25  a0 x1 x2 x3 xs0 hp = some res → G D cA h0 p l e rm_X8_wall s m args below meth c 6 (vx_MQ below (QI D cA h0 res) (XE D cA h0 res) args s 0 0 (Af h0)) 0 0 hp 25 [some (va_rf (some a0)), some (.int x1), some (.int x2), some (.int x3), none, none] [.int xs0] := by
  intro a0 x1 x2 x3 xs0 hp h
  unfold F_X8_wall_b25 at h
  refine r_istore (pc := 25) (lv' := [some (va_rf (some a0)), some (.int x1), some (.int x2), some (.int x3), some (.int xs0), none]) K dX8_wall_25 (by decide) rfl ?_
  refine r_aload_n (pc := 27) K dX8_wall_27 rfl ?_
  refine r_iload_n (pc := 28) K dX8_wall_28 rfl ?_
  refine s_int (pc := 29) (st := [va_rf (some a0)]) (As := [.int x1]) K E (fun _ e1 => M_X8_isRoom K.2.2.2.2.2.2.1 _ _ _ e1) h dX8_wall_29 ce_X8_isRoom cs_X8_isRoom lk_RX8_118 rfl rfl (by decide) rfl rfl (Nat.le_of_ble_eq_true rfl) rfl rfl (by decide) (by decide) (fun x38 h38 h => ?_)
  refine r_if_ne (pc := 32) (tgt := 39) K dX8_wall_32 (by decide) h (fun h _ => ?_) (fun h _ => ?_)
  · refine r_iload (pc := 39) K dX8_wall_39 rfl ?_
    refine r_if_ne (pc := 41) (tgt := 48) K dX8_wall_41 (by decide) h (fun h _ => ?_) (fun h _ => ?_)
    · refine r_aload_n (pc := 48) K dX8_wall_48 rfl ?_
      refine r_iload_n (pc := 49) K dX8_wall_49 rfl ?_
      refine v_int (pc := 50) (st := [va_rf (some a0)]) (As := [.int x1]) (b := a0) (ci := 8) (q0 := (RX8, TX8, 29)) K E (fun _ e1 => M_X8_isHung K.2.2.2.2.2.2.1 _ _ _ _ e1) h dX8_wall_50 ce_X8_isHung cv_X8_isHung lk_RX8_121 rfl rfl rfl rfl (by decide) rfl rfl (Nat.le_of_ble_eq_true rfl) rfl rfl (by decide) (by decide) (fun x39 h39 h => ?_)
      refine r_if_ne (pc := 53) (tgt := 66) K dX8_wall_53 (by decide) h (fun h _ => ?_) (fun h _ => ?_)
      · exact r_weak (lv2 := [some (va_rf (some a0)), some (.int x1), some (.int x2), some (.int x3), none, none]) ⟨rfl, rfl, rfl, rfl, trivial⟩ ((B_X8_wall_b66 K hr E  _ _ _ _ _ _ h))
      · refine r_aload_n (pc := 56) K dX8_wall_56 rfl ?_
        refine r_getR (pc := 57) K dX8_wall_57 fk_RX8_43 h (fun r40 h => ?_)
        refine r_iload_n (pc := 60) K dX8_wall_60 rfl ?_
        refine nn_k h (fun a41 hz hq41 => ?_)
        subst hz
        have h := hq41
        refine r_iald (pc := 61) K dX8_wall_61 h (fun x42 h => ?_)
        refine r_iconst (pc := 62) (v := 4) K dX8_wall_62 (by decide) ?_
        refine r_icmp_ne (pc := 63) (tgt := 70) K dX8_wall_63 (by decide) h (fun h _ => ?_) (fun h _ => ?_)
        · refine r_iconst (pc := 70) (v := 0) K dX8_wall_70 (by decide) ?_
          exact r_weak (lv2 := [some (va_rf (some a0)), some (.int x1), some (.int x2), some (.int x3), none, none]) ⟨rfl, rfl, rfl, rfl, trivial⟩ ((B_X8_wall_b71 K hr E  _ _ _ _ _ _ _ h))
        · exact r_weak (lv2 := [some (va_rf (some a0)), some (.int x1), some (.int x2), some (.int x3), none, none]) ⟨rfl, rfl, rfl, rfl, trivial⟩ ((B_X8_wall_b66 K hr E  _ _ _ _ _ _ h))
    · refine r_iconst (pc := 44) (v := 2) K dX8_wall_44 (by decide) ?_
      refine r_goto (pc := 45) (tgt := 71) K dX8_wall_45 (by decide) ?_
      exact r_weak (lv2 := [some (va_rf (some a0)), some (.int x1), some (.int x2), some (.int x3), none, none]) ⟨rfl, rfl, rfl, rfl, trivial⟩ ((B_X8_wall_b71 K hr E  _ _ _ _ _ _ _ h))
  · refine r_iconst (pc := 35) (v := 1) K dX8_wall_35 (by decide) ?_
    refine r_goto (pc := 36) (tgt := 71) K dX8_wall_36 (by decide) ?_
    exact r_weak (lv2 := [some (va_rf (some a0)), some (.int x1), some (.int x2), some (.int x3), none, none]) ⟨rfl, rfl, rfl, rfl, trivial⟩ ((B_X8_wall_b71 K hr E  _ _ _ _ _ _ _ h))
set_option maxRecDepth 100000 in
set_option maxHeartbeats 4000000 in
theorem B_X8_wall_b24 (K : Cx strL D cA h0 p l s m args meth c cX8_wall RX8 6) (hr : meth.sig.returnType = (some .int)) (E : ∀ x ∈ c.exceptionTable.toList, False) {res : (Int32 ⊕ String) × hpT} : ∀ (a0 : Nat) (x1 : Int32) (x2 : Int32) (x3 : Int32) (hp : hpT), F_X8_wall_b24  a0 x1 x2 x3 hp = some res → G D cA h0 p l e rm_X8_wall s m args below meth c 6 (vx_MQ below (QI D cA h0 res) (XE D cA h0 res) args s 0 0 (Af h0)) 0 0 hp 24 [some (va_rf (some a0)), some (.int x1), some (.int x2), some (.int x3), none, none] [] := by
  intro a0 x1 x2 x3 hp h
  unfold F_X8_wall_b24 at h
  refine r_iconst (pc := 24) (v := 0) K dX8_wall_24 (by decide) ?_
  exact r_weak (lv2 := [some (va_rf (some a0)), some (.int x1), some (.int x2), some (.int x3), none, none]) ⟨rfl, rfl, rfl, rfl, trivial⟩ ((B_X8_wall_b25 K hr E  _ _ _ _ _ _ h))
set_option maxRecDepth 100000 in
set_option maxHeartbeats 4000000 in
theorem M_X8_wall {D : va_G} {cA : Nat → ClassId} {h0 : Nat} {l : Launch} (hl : l.stackTraces = false) (a0 : Nat) (x1 : Int32) (x2 : Int32) (x3 : Int32) (hp : hpT) (res : (Int32 ⊕ String) × hpT) (h : F_X8_wall a0 x1 x2 x3 hp = some res) : vx_Met l yX8_wall (wsm yX8_wall cX8_wall 6 (some .int)) rm_X8_wall (va_Pc [va_rf (some a0), .int x1, .int x2, .int x3] (Pre strL D cA h0 hp)) (QI D cA h0 res) (XE D cA h0 res) 0 0 (Af h0) := by
  unfold F_X8_wall at h
  refine g_entry (by decide +kernel) hl (cat_c rfl (cat_c rfl (cat_c rfl (cat_c rfl (cat_n))))) (Nat.le_of_ble_eq_true rfl) (lv := [some (va_rf (some a0)), some (.int x1), some (.int x2), some (.int x3), none, none]) rfl ?_
  intro p e s m args below meth c K hr E hn
  have K : Cx strL D cA h0 p l s m args meth c cX8_wall RX8 6 := K
  refine r_iload_n (pc := 0) K dX8_wall_0 rfl ?_
  refine r_iconst (pc := 1) (v := 1) K dX8_wall_1 (by decide) ?_
  refine r_bipush (pc := 2) (v := 12) K dX8_wall_2 (by decide) ?_
  refine s_int (pc := 4) (st := []) (As := [.int x2, .int 1, .int 12]) K E (fun _ e1 => M_X8_is K.2.2.2.2.2.2.1 _ _ _ _ _ e1) h dX8_wall_4 ce_X8_is cs_X8_is lk_RX8_80 rfl rfl (by decide) rfl rfl (Nat.le_of_ble_eq_true rfl) rfl rfl (by decide) (by decide) (fun x43 h43 h => ?_)
  refine r_if_eq (pc := 7) (tgt := 24) K dX8_wall_7 (by decide) h (fun h _ => ?_) (fun h _ => ?_)
  · exact r_weak (lv2 := [some (va_rf (some a0)), some (.int x1), some (.int x2), some (.int x3), none, none]) ⟨rfl, rfl, rfl, rfl, trivial⟩ ((B_X8_wall_b24 K hr E  _ _ _ _ _ h))
  · refine r_iload_n (pc := 10) K dX8_wall_10 rfl ?_
    refine r_iconst (pc := 11) (v := 1) K dX8_wall_11 (by decide) ?_
    refine r_bipush (pc := 12) (v := 60) K dX8_wall_12 (by decide) ?_
    refine s_int (pc := 14) (st := []) (As := [.int x3, .int 1, .int 60]) K E (fun _ e1 => M_X8_is K.2.2.2.2.2.2.1 _ _ _ _ _ e1) h dX8_wall_14 ce_X8_is cs_X8_is lk_RX8_80 rfl rfl (by decide) rfl rfl (Nat.le_of_ble_eq_true rfl) rfl rfl (by decide) (by decide) (fun x44 h44 h => ?_)
    refine r_if_eq (pc := 17) (tgt := 24) K dX8_wall_17 (by decide) h (fun h _ => ?_) (fun h _ => ?_)
    · exact r_weak (lv2 := [some (va_rf (some a0)), some (.int x1), some (.int x2), some (.int x3), none, none]) ⟨rfl, rfl, rfl, rfl, trivial⟩ ((B_X8_wall_b24 K hr E  _ _ _ _ _ h))
    · refine r_iconst (pc := 20) (v := 1) K dX8_wall_20 (by decide) ?_
      refine r_goto (pc := 21) (tgt := 25) K dX8_wall_21 (by decide) ?_
      exact r_weak (lv2 := [some (va_rf (some a0)), some (.int x1), some (.int x2), some (.int x3), none, none]) ⟨rfl, rfl, rfl, rfl, trivial⟩ ((B_X8_wall_b25 K hr E  _ _ _ _ _ _ h))
def rm_X8_give : Room := { frames := 2, cells := 0, slots := 0, locals := 42 }
set_option maxRecDepth 100000 in
set_option maxHeartbeats 4000000 in
theorem B_X8_give_b87 (K : Cx strL D cA h0 p l s m args meth c cX8_give RX8 9) (hr : meth.sig.returnType = (some .boolean)) (E : ∀ x ∈ c.exceptionTable.toList, False) {res : (Int32 ⊕ String) × hpT} : ∀ (a0 : Nat) (x4 : Int32) (x6 : Int32) (x8 : Int32) (xs0 : Int32) (as1 : Nat) (hp : hpT), F_X8_give_b87  a0 x4 x6 x8 xs0 as1 hp = some res → G D cA h0 p l e rm_X8_give s m args below meth c 9 (vx_MQ below (QI D cA h0 res) (XE D cA h0 res) args s 0 0 (Af h0)) 0 0 hp 87 [some (va_rf (some a0)), none, none, none, some (.int x4), none, some (.int x6), none, some (.int x8)] [.int xs0, va_rf (some as1)] := by
  intro a0 x4 x6 x8 xs0 as1 hp h
  unfold F_X8_give_b87 at h
  refine r_put (pc := 87) K dX8_give_87 fk_RX8_127 fn_8_23 rfl rfl h (fun h21 h => ?_)
  refine r_aload_n (pc := 90) K dX8_give_90 rfl ?_
  refine r_getR (pc := 91) K dX8_give_91 fk_RX8_64 h (fun r22 h => ?_)
  refine r_iload (pc := 94) K dX8_give_94 rfl ?_
  refine r_iload (pc := 96) K dX8_give_96 rfl ?_
  refine r_iload (pc := 98) K dX8_give_98 rfl ?_
  refine r_iadd (pc := 100) K dX8_give_100 ?_
  refine nn_k h (fun a23 hz hq23 => ?_)
  subst hz
  have h := hq23
  refine r_iast (pc := 101) K dX8_give_101 h (fun h24 h => ?_)
  refine r_aload_n (pc := 102) K dX8_give_102 rfl ?_
  refine r_iload (pc := 103) K dX8_give_103 rfl ?_
  refine r_put (pc := 105) K dX8_give_105 fk_RX8_130 fn_8_24 rfl rfl h (fun h25 h => ?_)
  refine r_aload_n (pc := 108) K dX8_give_108 rfl ?_
  refine r_iload (pc := 109) K dX8_give_109 rfl ?_
  refine r_put (pc := 111) K dX8_give_111 fk_RX8_133 fn_8_25 rfl rfl h (fun h26 h => ?_)
  refine r_iconst (pc := 114) (v := 1) K dX8_give_114 (by decide) ?_
  exact r_zreturn (pc := 115) K hr dX8_give_115 h (by decide) (by decide)
set_option maxRecDepth 100000 in
set_option maxHeartbeats 4000000 in
theorem B_X8_give_b36 (K : Cx strL D cA h0 p l s m args meth c cX8_give RX8 9) (hr : meth.sig.returnType = (some .boolean)) (E : ∀ x ∈ c.exceptionTable.toList, False) {res : (Int32 ⊕ String) × hpT} {K10 : Nat → Int32 → Int32 → Int32 → Int32 → Int32 → Int32 → hpT → Rs Int32} (hK10 : ∀ (a0 : Nat) (x1 : Int32) (x2 : Int32) (x3 : Int32) (x4 : Int32) (x5 : Int32) (x6 : Int32) (hp : hpT), K10 a0 x1 x2 x3 x4 x5 x6 hp = some res → G D cA h0 p l e rm_X8_give s m args below meth c 9 (vx_MQ below (QI D cA h0 res) (XE D cA h0 res) args s 0 0 (Af h0)) 0 0 hp 10 [some (va_rf (some a0)), some (.int x1), some (.int x2), some (.int x3), some (.int x4), some (.int x5), some (.int x6), none, none] []) : ∀ (a0 : Nat) (x1 : Int32) (x2 : Int32) (x3 : Int32) (x4 : Int32) (x5 : Int32) (x6 : Int32) (xs0 : Int32) (hp : hpT), F_X8_give_b36 K10 a0 x1 x2 x3 x4 x5 x6 xs0 hp = some res → G D cA h0 p l e rm_X8_give s m args below meth c 9 (vx_MQ below (QI D cA h0 res) (XE D cA h0 res) args s 0 0 (Af h0)) 0 0 hp 36 [some (va_rf (some a0)), some (.int x1), some (.int x2), some (.int x3), some (.int x4), some (.int x5), some (.int x6), none, none] [.int xs0] := by
  intro a0 x1 x2 x3 x4 x5 x6 xs0 hp h
  unfold F_X8_give_b36 at h
  refine r_istore (pc := 36) (lv' := [some (va_rf (some a0)), some (.int x1), some (.int x2), some (.int x3), some (.int x4), some (.int x5), some (.int x6), some (.int xs0), none]) K dX8_give_36 (by decide) rfl ?_
  refine r_iload (pc := 38) K dX8_give_38 rfl ?_
  refine r_iload_n (pc := 40) K dX8_give_40 rfl ?_
  refine r_iload (pc := 41) K dX8_give_41 rfl ?_
  refine r_isub (pc := 43) K dX8_give_43 ?_
  refine r_iload (pc := 44) K dX8_give_44 rfl ?_
  refine s_int (pc := 46) (st := [.int xs0]) (As := [.int (x2 - xs0), .int x5]) K E (fun _ e1 => M_X8_modulo K.2.2.2.2.2.2.1 _ _ _ _ e1) h dX8_give_46 ce_X8_modulo cs_X8_modulo lk_RX8_95 rfl rfl (by decide) rfl rfl (Nat.le_of_ble_eq_true rfl) rfl rfl (by decide) (by decide) (fun x27 h27 h => ?_)
  refine r_iadd (pc := 49) K dX8_give_49 ?_
  refine r_istore (pc := 50) (lv' := [some (va_rf (some a0)), some (.int x1), some (.int x2), some (.int x3), some (.int x4), some (.int x5), some (.int x6), some (.int xs0), some (.int (xs0 + x27))]) K dX8_give_50 (by decide) rfl ?_
  refine r_iload (pc := 52) K dX8_give_52 rfl ?_
  refine r_iload (pc := 54) K dX8_give_54 rfl ?_
  refine r_iadd (pc := 56) K dX8_give_56 ?_
  refine r_aload_n (pc := 57) K dX8_give_57 rfl ?_
  refine r_getR (pc := 58) K dX8_give_58 fk_RX8_40 h (fun r28 h => ?_)
  refine r_iload_n (pc := 61) K dX8_give_61 rfl ?_
  refine nn_k h (fun a29 hz hq29 => ?_)
  subst hz
  have h := hq29
  refine r_iald (pc := 62) K dX8_give_62 h (fun x30 h => ?_)
  refine r_icmp_gt (pc := 63) (tgt := 116) K dX8_give_63 (by decide) h (fun h _ => ?_) (fun h _ => ?_)
  · refine r_iload (pc := 116) K dX8_give_116 rfl ?_
    refine r_aload_n (pc := 118) K dX8_give_118 rfl ?_
    refine r_getI (pc := 119) K dX8_give_119 fk_RX8_127 h (fun x31 h => ?_)
    refine r_icmp_lt (pc := 122) (tgt := 127) K dX8_give_122 (by decide) h (fun h _ => ?_) (fun h _ => ?_)
    · refine r_iinc (pc := 127) (v := (x6 + 1)) (lv' := [some (va_rf (some a0)), some (.int x1), some (.int x2), some (.int x3), some (.int x4), some (.int x5), some (.int (x6 + 1)), some (.int xs0), some (.int (xs0 + x27))]) K dX8_give_127 rfl rfl (by decide) rfl ?_
      refine r_goto (pc := 130) (tgt := 10) K dX8_give_130 (by decide) ?_
      exact r_weak (lv2 := [some (va_rf (some a0)), some (.int x1), some (.int x2), some (.int x3), some (.int x4), some (.int x5), some (.int (x6 + 1)), none, none]) ⟨rfl, rfl, rfl, rfl, rfl, rfl, rfl, trivial⟩ ((hK10 _ _ _ _ _ _ _ _ h))
    · refine r_iconst (pc := 125) (v := 0) K dX8_give_125 (by decide) ?_
      exact r_zreturn (pc := 126) K hr dX8_give_126 h (by decide) (by decide)
  · refine r_aload_n (pc := 66) K dX8_give_66 rfl ?_
    refine r_iload (pc := 67) K dX8_give_67 rfl ?_
    refine r_aload_n (pc := 69) K dX8_give_69 rfl ?_
    refine r_getI (pc := 70) K dX8_give_70 fk_RX8_127 h (fun x32 h => ?_)
    refine r_icmp_ge (pc := 73) (tgt := 83) K dX8_give_73 (by decide) h (fun h _ => ?_) (fun h _ => ?_)
    · refine r_iload (pc := 83) K dX8_give_83 rfl ?_
      refine r_iconst (pc := 85) (v := 1) K dX8_give_85 (by decide) ?_
      refine r_iadd (pc := 86) K dX8_give_86 ?_
      exact r_weak (lv2 := [some (va_rf (some a0)), none, none, none, some (.int x4), none, some (.int x6), none, some (.int (xs0 + x27))]) ⟨rfl, rfl, rfl, rfl, trivial⟩ ((B_X8_give_b87 K hr E  _ _ _ _ _ _ _ h))
    · refine r_aload_n (pc := 76) K dX8_give_76 rfl ?_
      refine r_getI (pc := 77) K dX8_give_77 fk_RX8_127 h (fun x33 h => ?_)
      refine r_goto (pc := 80) (tgt := 87) K dX8_give_80 (by decide) ?_
      exact r_weak (lv2 := [some (va_rf (some a0)), none, none, none, some (.int x4), none, some (.int x6), none, some (.int (xs0 + x27))]) ⟨rfl, rfl, rfl, rfl, trivial⟩ ((B_X8_give_b87 K hr E  _ _ _ _ _ _ _ h))
set_option maxRecDepth 100000 in
set_option maxHeartbeats 4000000 in
theorem B_X8_give_b10 (K : Cx strL D cA h0 p l s m args meth c cX8_give RX8 9) (hr : meth.sig.returnType = (some .boolean)) (E : ∀ x ∈ c.exceptionTable.toList, False) {res : (Int32 ⊕ String) × hpT} : ∀ (n : Nat) (a0 : Nat) (x1 : Int32) (x2 : Int32) (x3 : Int32) (x4 : Int32) (x5 : Int32) (x6 : Int32) (hp : hpT), F_X8_give_b10  n a0 x1 x2 x3 x4 x5 x6 hp = some res → G D cA h0 p l e rm_X8_give s m args below meth c 9 (vx_MQ below (QI D cA h0 res) (XE D cA h0 res) args s 0 0 (Af h0)) 0 0 hp 10 [some (va_rf (some a0)), some (.int x1), some (.int x2), some (.int x3), some (.int x4), some (.int x5), some (.int x6), none, none] [] := by
  intro n
  induction n with
  | zero => intro a0 x1 x2 x3 x4 x5 x6 hp h; cases h
  | succ n ih =>
    intro a0 x1 x2 x3 x4 x5 x6 hp h
    rw [F_X8_give_b10] at h
    refine r_iload (pc := 10) K dX8_give_10 rfl ?_
    refine r_iload_n (pc := 12) K dX8_give_12 rfl ?_
    refine r_icmp_ge (pc := 13) (tgt := 133) K dX8_give_13 (by decide) h (fun h _ => ?_) (fun h _ => ?_)
    · refine r_iconst (pc := 133) (v := 0) K dX8_give_133 (by decide) ?_
      exact r_zreturn (pc := 134) K hr dX8_give_134 h (by decide) (by decide)
    · refine r_iload (pc := 16) K dX8_give_16 rfl ?_
      refine r_aload_n (pc := 18) K dX8_give_18 rfl ?_
      refine r_getI (pc := 19) K dX8_give_19 fk_RX8_127 h (fun x34 h => ?_)
      refine r_icmp_ge (pc := 22) (tgt := 35) K dX8_give_22 (by decide) h (fun h _ => ?_) (fun h _ => ?_)
      · refine r_iconst (pc := 35) (v := 0) K dX8_give_35 (by decide) ?_
        exact r_weak (lv2 := [some (va_rf (some a0)), some (.int x1), some (.int x2), some (.int x3), some (.int x4), some (.int x5), some (.int x6), none, none]) ⟨rfl, rfl, rfl, rfl, rfl, rfl, rfl, trivial⟩ ((B_X8_give_b36 K hr E ih  _ _ _ _ _ _ _ _ _ h))
      · refine r_aload_n (pc := 25) K dX8_give_25 rfl ?_
        refine r_getR (pc := 26) K dX8_give_26 fk_RX8_64 h (fun r35 h => ?_)
        refine r_iload (pc := 29) K dX8_give_29 rfl ?_
        refine nn_k h (fun a36 hz hq36 => ?_)
        subst hz
        have h := hq36
        refine r_iald (pc := 31) K dX8_give_31 h (fun x37 h => ?_)
        refine r_goto (pc := 32) (tgt := 36) K dX8_give_32 (by decide) ?_
        exact r_weak (lv2 := [some (va_rf (some a0)), some (.int x1), some (.int x2), some (.int x3), some (.int x4), some (.int x5), some (.int x6), none, none]) ⟨rfl, rfl, rfl, rfl, rfl, rfl, rfl, trivial⟩ ((B_X8_give_b36 K hr E ih  _ _ _ _ _ _ _ _ _ h))
set_option maxRecDepth 100000 in
set_option maxHeartbeats 4000000 in
theorem M_X8_give {D : va_G} {cA : Nat → ClassId} {h0 : Nat} {l : Launch} (hl : l.stackTraces = false) (a0 : Nat) (x1 : Int32) (x2 : Int32) (x3 : Int32) (x4 : Int32) (hp : hpT) (res : (Int32 ⊕ String) × hpT) (h : F_X8_give a0 x1 x2 x3 x4 hp = some res) : vx_Met l yX8_give (wsm yX8_give cX8_give 9 (some .boolean)) rm_X8_give (va_Pc [va_rf (some a0), .int x1, .int x2, .int x3, .int x4] (Pre strL D cA h0 hp)) (QI D cA h0 res) (XE D cA h0 res) 0 0 (Af h0) := by
  unfold F_X8_give at h
  refine g_entry (by decide +kernel) hl (cat_c rfl (cat_c rfl (cat_c rfl (cat_c rfl (cat_c rfl (cat_n)))))) (Nat.le_of_ble_eq_true rfl) (lv := [some (va_rf (some a0)), some (.int x1), some (.int x2), some (.int x3), some (.int x4), none, none, none, none]) rfl ?_
  intro p e s m args below meth c K hr E hn
  have K : Cx strL D cA h0 p l s m args meth c cX8_give RX8 9 := K
  refine r_aload_n (pc := 0) K dX8_give_0 rfl ?_
  refine r_iload_n (pc := 1) K dX8_give_1 rfl ?_
  refine v_int (pc := 2) (st := []) (As := [.int x1]) (b := a0) (ci := 8) (q0 := (RX8, TX8, 29)) K E (fun _ e1 => M_X8_rowsOfLot K.2.2.2.2.2.2.1 _ _ _ _ e1) h dX8_give_2 ce_X8_rowsOfLot cv_X8_rowsOfLot lk_RX8_124 rfl rfl rfl rfl (by decide) rfl rfl (Nat.le_of_ble_eq_true rfl) rfl rfl (by decide) (by decide) (fun x38 h38 h => ?_)
  refine r_istore (pc := 5) (lv' := [some (va_rf (some a0)), some (.int x1), some (.int x2), some (.int x3), some (.int x4), some (.int x38), none, none, none]) K dX8_give_5 (by decide) rfl ?_
  refine r_iconst (pc := 7) (v := 0) K dX8_give_7 (by decide) ?_
  refine r_istore (pc := 8) (lv' := [some (va_rf (some a0)), some (.int x1), some (.int x2), some (.int x3), some (.int x4), some (.int x38), some (.int 0), none, none]) K dX8_give_8 (by decide) rfl ?_
  exact r_weak (lv2 := [some (va_rf (some a0)), some (.int x1), some (.int x2), some (.int x3), some (.int x4), some (.int x38), some (.int 0), none, none]) ⟨rfl, rfl, rfl, rfl, rfl, rfl, rfl, trivial⟩ ((B_X8_give_b10 K hr E 1000 _ _ _ _ _ _ _ _ h))
def rm_X8_cutAll : Room := { frames := 3, cells := 0, slots := 0, locals := 70 }
set_option maxRecDepth 100000 in
set_option maxHeartbeats 4000000 in
theorem B_X8_cutAll_b105 (K : Cx strL D cA h0 p l s m args meth c cX8_cutAll RX8 8) (hr : meth.sig.returnType = (some .int)) (E : ∀ x ∈ c.exceptionTable.toList, False) {res : (Int32 ⊕ String) × hpT} {K8 : Nat → Int32 → Int32 → Int32 → Int32 → Int32 → hpT → Rs Int32} (hK8 : ∀ (a0 : Nat) (x1 : Int32) (x2 : Int32) (x3 : Int32) (x4 : Int32) (x5 : Int32) (hp : hpT), K8 a0 x1 x2 x3 x4 x5 hp = some res → G D cA h0 p l e rm_X8_cutAll s m args below meth c 8 (vx_MQ below (QI D cA h0 res) (XE D cA h0 res) args s 0 0 (Af h0)) 0 0 hp 8 [some (va_rf (some a0)), some (.int x1), some (.int x2), some (.int x3), some (.int x4), some (.int x5), none, none] []) {K30 : Nat → Int32 → Int32 → Int32 → Int32 → Int32 → Int32 → Int32 → hpT → Rs Int32} (hK30 : ∀ (a0 : Nat) (x1 : Int32) (x2 : Int32) (x3 : Int32) (x4 : Int32) (x5 : Int32) (x6 : Int32) (x7 : Int32) (hp : hpT), K30 a0 x1 x2 x3 x4 x5 x6 x7 hp = some res → G D cA h0 p l e rm_X8_cutAll s m args below meth c 8 (vx_MQ below (QI D cA h0 res) (XE D cA h0 res) args s 0 0 (Af h0)) 0 0 hp 30 [some (va_rf (some a0)), some (.int x1), some (.int x2), some (.int x3), some (.int x4), some (.int x5), some (.int x6), some (.int x7)] []) : ∀ (a0 : Nat) (x1 : Int32) (x2 : Int32) (x3 : Int32) (x4 : Int32) (x5 : Int32) (x6 : Int32) (x7 : Int32) (hp : hpT), F_X8_cutAll_b105 K8 K30 a0 x1 x2 x3 x4 x5 x6 x7 hp = some res → G D cA h0 p l e rm_X8_cutAll s m args below meth c 8 (vx_MQ below (QI D cA h0 res) (XE D cA h0 res) args s 0 0 (Af h0)) 0 0 hp 105 [some (va_rf (some a0)), some (.int x1), some (.int x2), some (.int x3), some (.int x4), some (.int x5), some (.int x6), some (.int x7)] [] := by
  intro a0 x1 x2 x3 x4 x5 x6 x7 hp h
  unfold F_X8_cutAll_b105 at h
  refine r_iinc (pc := 105) (v := (x7 + 1)) (lv' := [some (va_rf (some a0)), some (.int x1), some (.int x2), some (.int x3), some (.int x4), some (.int x5), some (.int x6), some (.int (x7 + 1))]) K dX8_cutAll_105 rfl rfl (by decide) rfl ?_
  refine r_goto (pc := 108) (tgt := 30) K dX8_cutAll_108 (by decide) ?_
  exact r_weak (lv2 := [some (va_rf (some a0)), some (.int x1), some (.int x2), some (.int x3), some (.int x4), some (.int x5), some (.int x6), some (.int (x7 + 1))]) ⟨rfl, rfl, rfl, rfl, rfl, rfl, rfl, rfl, trivial⟩ ((hK30 _ _ _ _ _ _ _ _ _ h))
set_option maxRecDepth 100000 in
set_option maxHeartbeats 4000000 in
theorem B_X8_cutAll_b30 (K : Cx strL D cA h0 p l s m args meth c cX8_cutAll RX8 8) (hr : meth.sig.returnType = (some .int)) (E : ∀ x ∈ c.exceptionTable.toList, False) {res : (Int32 ⊕ String) × hpT} {K8 : Nat → Int32 → Int32 → Int32 → Int32 → Int32 → hpT → Rs Int32} (hK8 : ∀ (a0 : Nat) (x1 : Int32) (x2 : Int32) (x3 : Int32) (x4 : Int32) (x5 : Int32) (hp : hpT), K8 a0 x1 x2 x3 x4 x5 hp = some res → G D cA h0 p l e rm_X8_cutAll s m args below meth c 8 (vx_MQ below (QI D cA h0 res) (XE D cA h0 res) args s 0 0 (Af h0)) 0 0 hp 8 [some (va_rf (some a0)), some (.int x1), some (.int x2), some (.int x3), some (.int x4), some (.int x5), none, none] []) : ∀ (n : Nat) (a0 : Nat) (x1 : Int32) (x2 : Int32) (x3 : Int32) (x4 : Int32) (x5 : Int32) (x6 : Int32) (x7 : Int32) (hp : hpT), F_X8_cutAll_b30 K8 n a0 x1 x2 x3 x4 x5 x6 x7 hp = some res → G D cA h0 p l e rm_X8_cutAll s m args below meth c 8 (vx_MQ below (QI D cA h0 res) (XE D cA h0 res) args s 0 0 (Af h0)) 0 0 hp 30 [some (va_rf (some a0)), some (.int x1), some (.int x2), some (.int x3), some (.int x4), some (.int x5), some (.int x6), some (.int x7)] [] := by
  intro n
  induction n with
  | zero => intro a0 x1 x2 x3 x4 x5 x6 x7 hp h; cases h
  | succ n ih =>
    intro a0 x1 x2 x3 x4 x5 x6 x7 hp h
    rw [F_X8_cutAll_b30] at h
    refine r_iload (pc := 30) K dX8_cutAll_30 rfl ?_
    refine r_aload_n (pc := 32) K dX8_cutAll_32 rfl ?_
    refine r_getR (pc := 33) K dX8_cutAll_33 fk_RX8_46 h (fun r21 h => ?_)
    refine r_iload (pc := 36) K dX8_cutAll_36 rfl ?_
    refine nn_k h (fun a22 hz hq22 => ?_)
    subst hz
    have h := hq22
    refine r_iald (pc := 38) K dX8_cutAll_38 h (fun x23 h => ?_)
    refine r_icmp_ge (pc := 39) (tgt := 111) K dX8_cutAll_39 (by decide) h (fun h _ => ?_) (fun h _ => ?_)
    · refine r_iinc (pc := 111) (v := (x5 + 1)) (lv' := [some (va_rf (some a0)), some (.int x1), some (.int x2), some (.int x3), some (.int x4), some (.int (x5 + 1)), some (.int x6), some (.int x7)]) K dX8_cutAll_111 rfl rfl (by decide) rfl ?_
      refine r_goto (pc := 114) (tgt := 8) K dX8_cutAll_114 (by decide) ?_
      exact r_weak (lv2 := [some (va_rf (some a0)), some (.int x1), some (.int x2), some (.int x3), some (.int x4), some (.int (x5 + 1)), none, none]) ⟨rfl, rfl, rfl, rfl, rfl, rfl, trivial⟩ ((hK8 _ _ _ _ _ _ _ h))
    · refine r_aload_n (pc := 42) K dX8_cutAll_42 rfl ?_
      refine r_iload_n (pc := 43) K dX8_cutAll_43 rfl ?_
      refine r_iload_n (pc := 44) K dX8_cutAll_44 rfl ?_
      refine r_aload_n (pc := 45) K dX8_cutAll_45 rfl ?_
      refine r_getR (pc := 46) K dX8_cutAll_46 fk_RX8_37 h (fun r24 h => ?_)
      refine r_iload_n (pc := 49) K dX8_cutAll_49 rfl ?_
      refine nn_k h (fun a25 hz hq25 => ?_)
      subst hz
      have h := hq25
      refine r_iald (pc := 50) K dX8_cutAll_50 h (fun x26 h => ?_)
      refine r_aload_n (pc := 51) K dX8_cutAll_51 rfl ?_
      refine r_getR (pc := 52) K dX8_cutAll_52 fk_RX8_49 h (fun r27 h => ?_)
      refine r_iload (pc := 55) K dX8_cutAll_55 rfl ?_
      refine nn_k h (fun a28 hz hq28 => ?_)
      subst hz
      have h := hq28
      refine r_iald (pc := 57) K dX8_cutAll_57 h (fun x29 h => ?_)
      refine v_int (pc := 58) (st := []) (As := [.int x2, .int x3, .int x26, .int x29]) (b := a0) (ci := 8) (q0 := (RX8, TX8, 29)) K E (fun _ e1 => M_X8_give K.2.2.2.2.2.2.1 _ _ _ _ _ _ _ e1) h dX8_cutAll_58 ce_X8_give cv_X8_give lk_RX8_136 rfl rfl rfl rfl (by decide) rfl rfl (Nat.le_of_ble_eq_true rfl) rfl rfl (by decide) (by decide) (fun x30 h30 h => ?_)
      refine r_if_ne (pc := 61) (tgt := 66) K dX8_cutAll_61 (by decide) h (fun h _ => ?_) (fun h _ => ?_)
      · refine r_iload (pc := 66) K dX8_cutAll_66 rfl ?_
        refine r_if_eq (pc := 68) (tgt := 105) K dX8_cutAll_68 (by decide) h (fun h _ => ?_) (fun h _ => ?_)
        · exact r_weak (lv2 := [some (va_rf (some a0)), some (.int x1), some (.int x2), some (.int x3), some (.int x4), some (.int x5), some (.int x6), some (.int x7)]) ⟨rfl, rfl, rfl, rfl, rfl, rfl, rfl, rfl, trivial⟩ ((B_X8_cutAll_b105 K hr E hK8 ih  _ _ _ _ _ _ _ _ _ h))
        · refine r_aload_n (pc := 71) K dX8_cutAll_71 rfl ?_
          refine r_getR (pc := 72) K dX8_cutAll_72 fk_RX8_67 h (fun r31 h => ?_)
          refine r_bipush (pc := 75) (v := 24) K dX8_cutAll_75 (by decide) ?_
          refine r_iload (pc := 77) K dX8_cutAll_77 rfl ?_
          refine r_imul (pc := 79) K dX8_cutAll_79 ?_
          refine r_iload (pc := 80) K dX8_cutAll_80 rfl ?_
          refine r_iadd (pc := 82) K dX8_cutAll_82 ?_
          refine r_aload_n (pc := 83) K dX8_cutAll_83 rfl ?_
          refine r_getI (pc := 84) K dX8_cutAll_84 fk_RX8_130 h (fun x32 h => ?_)
          refine nn_k h (fun a33 hz hq33 => ?_)
          subst hz
          have h := hq33
          refine r_iast (pc := 87) K dX8_cutAll_87 h (fun h34 h => ?_)
          refine r_aload_n (pc := 88) K dX8_cutAll_88 rfl ?_
          refine r_getR (pc := 89) K dX8_cutAll_89 fk_RX8_70 h (fun r35 h => ?_)
          refine r_bipush (pc := 92) (v := 24) K dX8_cutAll_92 (by decide) ?_
          refine r_iload (pc := 94) K dX8_cutAll_94 rfl ?_
          refine r_imul (pc := 96) K dX8_cutAll_96 ?_
          refine r_iload (pc := 97) K dX8_cutAll_97 rfl ?_
          refine r_iadd (pc := 99) K dX8_cutAll_99 ?_
          refine r_aload_n (pc := 100) K dX8_cutAll_100 rfl ?_
          refine r_getI (pc := 101) K dX8_cutAll_101 fk_RX8_133 h (fun x36 h => ?_)
          refine nn_k h (fun a37 hz hq37 => ?_)
          subst hz
          have h := hq37
          refine r_iast (pc := 104) K dX8_cutAll_104 h (fun h38 h => ?_)
          exact r_weak (lv2 := [some (va_rf (some a0)), some (.int x1), some (.int x2), some (.int x3), some (.int x4), some (.int x5), some (.int x6), some (.int x7)]) ⟨rfl, rfl, rfl, rfl, rfl, rfl, rfl, rfl, trivial⟩ ((B_X8_cutAll_b105 K hr E hK8 ih  _ _ _ _ _ _ _ _ _ h))
      · refine r_iconst (pc := 64) (v := (-1)) K dX8_cutAll_64 (by decide) ?_
        exact r_ireturn (pc := 65) K hr dX8_cutAll_65 h (by decide) (by decide)
set_option maxRecDepth 100000 in
set_option maxHeartbeats 4000000 in
theorem B_X8_cutAll_b8 (K : Cx strL D cA h0 p l s m args meth c cX8_cutAll RX8 8) (hr : meth.sig.returnType = (some .int)) (E : ∀ x ∈ c.exceptionTable.toList, False) {res : (Int32 ⊕ String) × hpT} : ∀ (n : Nat) (a0 : Nat) (x1 : Int32) (x2 : Int32) (x3 : Int32) (x4 : Int32) (x5 : Int32) (hp : hpT), F_X8_cutAll_b8  n a0 x1 x2 x3 x4 x5 hp = some res → G D cA h0 p l e rm_X8_cutAll s m args below meth c 8 (vx_MQ below (QI D cA h0 res) (XE D cA h0 res) args s 0 0 (Af h0)) 0 0 hp 8 [some (va_rf (some a0)), some (.int x1), some (.int x2), some (.int x3), some (.int x4), some (.int x5), none, none] [] := by
  intro n
  induction n with
  | zero => intro a0 x1 x2 x3 x4 x5 hp h; cases h
  | succ n ih =>
    intro a0 x1 x2 x3 x4 x5 hp h
    rw [F_X8_cutAll_b8] at h
    refine r_iload (pc := 8) K dX8_cutAll_8 rfl ?_
    refine r_aload_n (pc := 10) K dX8_cutAll_10 rfl ?_
    refine r_getR (pc := 11) K dX8_cutAll_11 fk_RX8_43 h (fun r39 h => ?_)
    refine r_iload_n (pc := 14) K dX8_cutAll_14 rfl ?_
    refine nn_k h (fun a40 hz hq40 => ?_)
    subst hz
    have h := hq40
    refine r_iald (pc := 15) K dX8_cutAll_15 h (fun x41 h => ?_)
    refine r_icmp_ge (pc := 16) (tgt := 117) K dX8_cutAll_16 (by decide) h (fun h _ => ?_) (fun h _ => ?_)
    · refine r_aload_n (pc := 117) K dX8_cutAll_117 rfl ?_
      refine r_getI (pc := 118) K dX8_cutAll_118 fk_RX8_127 h (fun x42 h => ?_)
      exact r_ireturn (pc := 121) K hr dX8_cutAll_121 h (by decide) (by decide)
    · refine r_iconst (pc := 19) (v := 4) K dX8_cutAll_19 (by decide) ?_
      refine r_iload_n (pc := 20) K dX8_cutAll_20 rfl ?_
      refine r_imul (pc := 21) K dX8_cutAll_21 ?_
      refine r_iload (pc := 22) K dX8_cutAll_22 rfl ?_
      refine r_iadd (pc := 24) K dX8_cutAll_24 ?_
      refine r_istore (pc := 25) (lv' := [some (va_rf (some a0)), some (.int x1), some (.int x2), some (.int x3), some (.int x4), some (.int x5), some (.int ((4 * x1) + x5)), none]) K dX8_cutAll_25 (by decide) rfl ?_
      refine r_iconst (pc := 27) (v := 0) K dX8_cutAll_27 (by decide) ?_
      refine r_istore (pc := 28) (lv' := [some (va_rf (some a0)), some (.int x1), some (.int x2), some (.int x3), some (.int x4), some (.int x5), some (.int ((4 * x1) + x5)), some (.int 0)]) K dX8_cutAll_28 (by decide) rfl ?_
      exact r_weak (lv2 := [some (va_rf (some a0)), some (.int x1), some (.int x2), some (.int x3), some (.int x4), some (.int x5), some (.int ((4 * x1) + x5)), some (.int 0)]) ⟨rfl, rfl, rfl, rfl, rfl, rfl, rfl, rfl, trivial⟩ ((B_X8_cutAll_b30 K hr E ih 1000 _ _ _ _ _ _ _ _ _ h))
set_option maxRecDepth 100000 in
set_option maxHeartbeats 4000000 in
theorem M_X8_cutAll {D : va_G} {cA : Nat → ClassId} {h0 : Nat} {l : Launch} (hl : l.stackTraces = false) (a0 : Nat) (x1 : Int32) (x2 : Int32) (x3 : Int32) (x4 : Int32) (hp : hpT) (res : (Int32 ⊕ String) × hpT) (h : F_X8_cutAll a0 x1 x2 x3 x4 hp = some res) : vx_Met l yX8_cutAll (wsm yX8_cutAll cX8_cutAll 8 (some .int)) rm_X8_cutAll (va_Pc [va_rf (some a0), .int x1, .int x2, .int x3, .int x4] (Pre strL D cA h0 hp)) (QI D cA h0 res) (XE D cA h0 res) 0 0 (Af h0) := by
  unfold F_X8_cutAll at h
  refine g_entry (by decide +kernel) hl (cat_c rfl (cat_c rfl (cat_c rfl (cat_c rfl (cat_c rfl (cat_n)))))) (Nat.le_of_ble_eq_true rfl) (lv := [some (va_rf (some a0)), some (.int x1), some (.int x2), some (.int x3), some (.int x4), none, none, none]) rfl ?_
  intro p e s m args below meth c K hr E hn
  have K : Cx strL D cA h0 p l s m args meth c cX8_cutAll RX8 8 := K
  refine r_aload_n (pc := 0) K dX8_cutAll_0 rfl ?_
  refine r_iconst (pc := 1) (v := 0) K dX8_cutAll_1 (by decide) ?_
  refine r_put (pc := 2) K dX8_cutAll_2 fk_RX8_127 fn_8_23 rfl rfl h (fun h43 h => ?_)
  refine r_iconst (pc := 5) (v := 0) K dX8_cutAll_5 (by decide) ?_
  refine r_istore (pc := 6) (lv' := [some (va_rf (some a0)), some (.int x1), some (.int x2), some (.int x3), some (.int x4), some (.int 0), none, none]) K dX8_cutAll_6 (by decide) rfl ?_
  exact r_weak (lv2 := [some (va_rf (some a0)), some (.int x1), some (.int x2), some (.int x3), some (.int x4), some (.int 0), none, none]) ⟨rfl, rfl, rfl, rfl, rfl, rfl, trivial⟩ ((B_X8_cutAll_b8 K hr E 1000 _ _ _ _ _ _ _ h))
def rm_X8_keep : Room := { frames := 0, cells := 0, slots := 0, locals := 0 }
set_option maxRecDepth 100000 in
set_option maxHeartbeats 4000000 in
theorem B_X8_keep_b12 (K : Cx strL D cA h0 p l s m args meth c cX8_keep RX8 3) (hr : meth.sig.returnType = none) (E : ∀ x ∈ c.exceptionTable.toList, False) {res : (Unit ⊕ String) × hpT} : ∀ (n : Nat) (a0 : Nat) (x1 : Int32) (x2 : Int32) (hp : hpT), F_X8_keep_b12  n a0 x1 x2 hp = some res → G D cA h0 p l e rm_X8_keep s m args below meth c 3 (vx_MQ below (QV D cA h0 res) (XE D cA h0 res) args s 0 0 (Af h0)) 0 0 hp 12 [some (va_rf (some a0)), some (.int x1), some (.int x2)] [] := by
  intro n
  induction n with
  | zero => intro a0 x1 x2 hp h; cases h
  | succ n ih =>
    intro a0 x1 x2 hp h
    rw [F_X8_keep_b12] at h
    refine r_iload_n (pc := 12) K dX8_keep_12 rfl ?_
    refine r_aload_n (pc := 13) K dX8_keep_13 rfl ?_
    refine r_getI (pc := 14) K dX8_keep_14 fk_RX8_127 h (fun x21 h => ?_)
    refine r_icmp_ge (pc := 17) (tgt := 43) K dX8_keep_17 (by decide) h (fun h _ => ?_) (fun h _ => ?_)
    · exact r_vreturn (pc := 43) K hr dX8_keep_43 h (by decide) (by decide)
    · refine r_aload_n (pc := 20) K dX8_keep_20 rfl ?_
      refine r_getR (pc := 21) K dX8_keep_21 fk_RX8_61 h (fun r22 h => ?_)
      refine r_bipush (pc := 24) (v := 20) K dX8_keep_24 (by decide) ?_
      refine r_iload_n (pc := 26) K dX8_keep_26 rfl ?_
      refine r_imul (pc := 27) K dX8_keep_27 ?_
      refine r_iload_n (pc := 28) K dX8_keep_28 rfl ?_
      refine r_iadd (pc := 29) K dX8_keep_29 ?_
      refine r_aload_n (pc := 30) K dX8_keep_30 rfl ?_
      refine r_getR (pc := 31) K dX8_keep_31 fk_RX8_64 h (fun r23 h => ?_)
      refine r_iload_n (pc := 34) K dX8_keep_34 rfl ?_
      refine nn_k h (fun a24 hz hq24 => ?_)
      subst hz
      have h := hq24
      refine r_iald (pc := 35) K dX8_keep_35 h (fun x25 h => ?_)
      refine nn_k h (fun a26 hz hq26 => ?_)
      subst hz
      have h := hq26
      refine r_iast (pc := 36) K dX8_keep_36 h (fun h27 h => ?_)
      refine r_iinc (pc := 37) (v := (x2 + 1)) (lv' := [some (va_rf (some a0)), some (.int x1), some (.int (x2 + 1))]) K dX8_keep_37 rfl rfl (by decide) rfl ?_
      refine r_goto (pc := 40) (tgt := 12) K dX8_keep_40 (by decide) ?_
      exact r_weak (lv2 := [some (va_rf (some a0)), some (.int x1), some (.int (x2 + 1))]) ⟨rfl, rfl, rfl, trivial⟩ ((ih _ _ _ _ h))
set_option maxRecDepth 100000 in
set_option maxHeartbeats 4000000 in
theorem M_X8_keep {D : va_G} {cA : Nat → ClassId} {h0 : Nat} {l : Launch} (hl : l.stackTraces = false) (a0 : Nat) (x1 : Int32) (hp : hpT) (res : (Unit ⊕ String) × hpT) (h : F_X8_keep a0 x1 hp = some res) : vx_Met l yX8_keep (wsm yX8_keep cX8_keep 3 none) rm_X8_keep (va_Pc [va_rf (some a0), .int x1] (Pre strL D cA h0 hp)) (QV D cA h0 res) (XE D cA h0 res) 0 0 (Af h0) := by
  unfold F_X8_keep at h
  refine g_entry (by decide +kernel) hl (cat_c rfl (cat_c rfl (cat_n))) (Nat.le_of_ble_eq_true rfl) (lv := [some (va_rf (some a0)), some (.int x1), none]) rfl ?_
  intro p e s m args below meth c K hr E hn
  have K : Cx strL D cA h0 p l s m args meth c cX8_keep RX8 3 := K
  refine r_aload_n (pc := 0) K dX8_keep_0 rfl ?_
  refine r_getR (pc := 1) K dX8_keep_1 fk_RX8_58 h (fun r28 h => ?_)
  refine r_iload_n (pc := 4) K dX8_keep_4 rfl ?_
  refine r_aload_n (pc := 5) K dX8_keep_5 rfl ?_
  refine r_getI (pc := 6) K dX8_keep_6 fk_RX8_127 h (fun x29 h => ?_)
  refine nn_k h (fun a30 hz hq30 => ?_)
  subst hz
  have h := hq30
  refine r_iast (pc := 9) K dX8_keep_9 h (fun h31 h => ?_)
  refine r_iconst (pc := 10) (v := 0) K dX8_keep_10 (by decide) ?_
  refine r_istore_n (pc := 11) (lv' := [some (va_rf (some a0)), some (.int x1), some (.int 0)]) K dX8_keep_11 (by decide) rfl ?_
  exact r_weak (lv2 := [some (va_rf (some a0)), some (.int x1), some (.int 0)]) ⟨rfl, rfl, rfl, trivial⟩ ((B_X8_keep_b12 K hr E 1000 _ _ _ _ h))
end
