/-! the cases of the law: where wrapper and reference answer alike, the case goes on -/
theorem ald_out {z ao n0 : Nat} {g3 : Nat → Option va_E} {f0 : Nat → Int64} {w : Int64} (g1 : g3 ao = some (.inl (1, n0, .inr (.inl f0)))) (g2 : 0 < n0) (g5 : f0 0 = w) : aldL (z, g3) ao 0 (fun v => rtv v (z, g3)) = some (.inl w, (z, g3)) := by
  unfold aldL
  simp only [g1]
  rw [if_pos ⟨trivial, by decide, by simpa using g2⟩]
  show rtv (f0 _) _ = _
  rw [show (0 : Int32).toNatClampNeg = 0 from rfl, g5]
  rfl
section
variable {D : va_G} {cA : Nat → ClassId} {h0 : Nat} {p : Program} {l : Launch} {e : Env} {s : State} {m : MethodId} {args : Array Value} {below : List Frame} {meth : Method} {c : Code}
set_option maxRecDepth 100000 in
set_option maxHeartbeats 4000000 in
theorem LC_0 (K : Cx strL D cA h0 p l s m args meth c cL_law RL 7) {Q : State → Prop} {cells slots ax am ao b0 L : Nat} {xs : Nat → Int32} {x4 : Int32} {hp : hpT} {k b : Int32} {h2 : hpT} {g3 : Nat → Option va_E} (hc : cells + 6 ≤ 601024) (hs : slots + 125 ≤ 7293034) (hX : va_X b0 L xs s s.heap) (hbl : b0 < s.heap.size) (hbA : ¬ Af h0 b0) (i1 : vp_in (x4 + 1) L) (i2 : vp_in (x4 + 2) L) (i3 : vp_in (x4 + 3) L) (hx7 : ∃ fs, hp.2 ax = some (.inr (7, fs))) (hx8 : ∃ fs, h2.2 am = some (.inr (8, fs))) (hx9 : ∃ fs, g3 am = some (.inr (8, fs))) (hw : wrap cs_L_pattern (F_X7_pattern ax (xs (x4 + 1).toNatClampNeg) (xs (x4 + 2).toNatClampNeg) (xs (x4 + 3).toNatClampNeg) hp) ao = some (.inl k, h2)) (hM : ∀ z, F_X8_pattern am (xs (x4 + 1).toNatClampNeg) (xs (x4 + 2).toNatClampNeg) (xs (x4 + 3).toNatClampNeg) (z, h2.2) = some (.inl b, (z, g3))) (hT : ∀ z, F_X8_thrown am (z, g3) = some (.inl k, (z, g3))) (hO : k = 0 → ∃ n f, g3 ao = some (.inl (1, n, .inr (.inl f))) ∧ 0 < n ∧ f 0 = b.toInt64) (kk : ∀ z, G D cA h0 p l e room_1 s m args below meth c 7 Q (cells + 6) (slots + 125) (z, g3) 1301 [some (va_rf (some b0)), some (va_rf (some ax)), some (va_rf (some am)), some (va_rf (some ao)), some (.int x4), none, none] []) : G D cA h0 p l e room_1 s m args below meth c 7 Q cells slots hp 116 [some (va_rf (some b0)), some (va_rf (some ax)), some (va_rf (some am)), some (va_rf (some ao)), some (.int x4), none, none] [] := by
  obtain ⟨fs7, hx7⟩ := hx7
  obtain ⟨fs8, hx8⟩ := hx8
  obtain ⟨fs9, hx9⟩ := hx9
  refine r_aload_n (pc := 116) K dL_law_116 rfl ?_
  refine r_aload_n (pc := 117) K dL_law_117 rfl ?_
  refine r_iload (pc := 118) K dL_law_118 rfl ?_
  refine r_iconst (pc := 120) (v := 1) K dL_law_120 (by decide) ?_
  refine r_iadd (pc := 121) K dL_law_121 ?_
  refine r_sld (pc := 122) K hX hbl hbA i1 dL_law_122 ?_
  refine r_aload_n (pc := 123) K dL_law_123 rfl ?_
  refine r_iload (pc := 124) K dL_law_124 rfl ?_
  refine r_iconst (pc := 126) (v := 2) K dL_law_126 (by decide) ?_
  refine r_iadd (pc := 127) K dL_law_127 ?_
  refine r_sld (pc := 128) K hX hbl hbA i2 dL_law_128 ?_
  refine r_aload_n (pc := 129) K dL_law_129 rfl ?_
  refine r_iload (pc := 130) K dL_law_130 rfl ?_
  refine r_iconst (pc := 132) (v := 3) K dL_law_132 (by decide) ?_
  refine r_iadd (pc := 133) K dL_law_133 ?_
  refine r_sld (pc := 134) K hX hbl hbA i3 dL_law_134 ?_
  refine r_aload_n (pc := 135) K dL_law_135 rfl ?_
  refine w_int (pc := 136) (st := []) (As := [va_rf (some ax), .int (xs (x4 + 1).toNatClampNeg), .int (xs (x4 + 2).toNatClampNeg), .int (xs (x4 + 3).toNatClampNeg), va_rf (some ao)]) K (M_L_pattern K.2.2.2.2.2.2.1 _ _ _ _ _ _ _ ⟨fs7, hx7⟩ hw) dL_law_136 cw_L_pattern cs_w_L_pattern lw_RL_69 rfl rfl (by decide) rfl rfl (Nat.le_of_ble_eq_true rfl) (by show _ ≤ 601024; omega) (by show _ ≤ 7293034; omega) (fun z => ?_)
  refine r_istore (pc := 139) (lv' := [some (va_rf (some b0)), some (va_rf (some ax)), some (va_rf (some am)), some (va_rf (some ao)), some (.int x4), some (.int k), none]) K dL_law_139 (by decide) rfl ?_
  refine r_aload_n (pc := 141) K dL_law_141 rfl ?_
  refine r_aload_n (pc := 142) K dL_law_142 rfl ?_
  refine r_iload (pc := 143) K dL_law_143 rfl ?_
  refine r_iconst (pc := 145) (v := 1) K dL_law_145 (by decide) ?_
  refine r_iadd (pc := 146) K dL_law_146 ?_
  refine r_sld (pc := 147) K hX hbl hbA i1 dL_law_147 ?_
  refine r_aload_n (pc := 148) K dL_law_148 rfl ?_
  refine r_iload (pc := 149) K dL_law_149 rfl ?_
  refine r_iconst (pc := 151) (v := 2) K dL_law_151 (by decide) ?_
  refine r_iadd (pc := 152) K dL_law_152 ?_
  refine r_sld (pc := 153) K hX hbl hbA i2 dL_law_153 ?_
  refine r_aload_n (pc := 154) K dL_law_154 rfl ?_
  refine r_iload (pc := 155) K dL_law_155 rfl ?_
  refine r_iconst (pc := 157) (v := 3) K dL_law_157 (by decide) ?_
  refine r_iadd (pc := 158) K dL_law_158 ?_
  refine r_sld (pc := 159) K hX hbl hbA i3 dL_law_159 ?_
  refine m_int (pc := 160) (st := []) (As := [.int (xs (x4 + 1).toNatClampNeg), .int (xs (x4 + 2).toNatClampNeg), .int (xs (x4 + 3).toNatClampNeg)]) (b := am) (ci := 8) (q0 := (RX8, TX8, 29)) K (M_X8_pattern K.2.2.2.2.2.2.1 _ _ _ _ _ _ (hM z)) dL_law_160 ce_X8_pattern cv_X8_pattern lk_RL_74 rfl rfl hx8 rfl rfl (by decide) rfl rfl (Nat.le_of_ble_eq_true rfl) (by show _ ≤ 601024; omega) (by show _ ≤ 7293034; omega) ?_
  refine r_istore (pc := 163) (lv' := [some (va_rf (some b0)), some (va_rf (some ax)), some (va_rf (some am)), some (va_rf (some ao)), some (.int x4), some (.int k), some (.int b)]) K dL_law_163 (by decide) rfl ?_
  refine r_aload_n (pc := 165) K dL_law_165 rfl ?_
  refine m_int (pc := 166) (st := []) (As := []) (b := am) (ci := 8) (q0 := (RX8, TX8, 29)) K (M_X8_thrown K.2.2.2.2.2.2.1 _ _ _ (hT z)) dL_law_166 ce_X8_thrown cv_X8_thrown lk_RL_75 rfl rfl hx9 rfl rfl (by decide) rfl rfl (Nat.le_of_ble_eq_true rfl) (by show _ ≤ 601024; omega) (by show _ ≤ 7293034; omega) ?_
  refine r_iload (pc := 169) K dL_law_169 rfl ?_
  refine q_icmp_eq (pc := 171) (tgt := 176) K dL_law_171 (by decide) (fun _ => ?_) (fun q => absurd rfl q)
  refine r_iload (pc := 176) K dL_law_176 rfl ?_
  refine q_if_ne (pc := 178) (tgt := 193) K dL_law_178 (by decide) (fun _ => ?_) (fun q => ?_)
  · refine r_goto (pc := 193) (tgt := 1301) K dL_law_193 (by decide) ?_
    exact r_widen (by omega) (by omega) (r_weak (lv2 := [some (va_rf (some b0)), some (va_rf (some ax)), some (va_rf (some am)), some (va_rf (some ao)), some (.int x4), none, none]) ⟨rfl, rfl, rfl, rfl, rfl, trivial⟩ (kk z))
  · obtain ⟨n0, f0, g1, g2, g5⟩ := hO q
    refine r_aload_n (pc := 181) K dL_law_181 rfl ?_
    refine r_iconst (pc := 182) (v := 0) K dL_law_182 (by decide) ?_
    have hl9 := ald_out (z := z) g1 g2 g5
    refine r_lald (pc := 183) K dL_law_183 hl9 (fun v9 h9 => ?_)
    have e9 : v9 = b.toInt64 := by cases h9; rfl
    subst e9
    refine r_iload (pc := 184) K dL_law_184 rfl ?_
    refine r_i2l (pc := 186) K dL_law_186 ?_
    refine r_lcmp (pc := 187) K dL_law_187 ?_
    refine q_if_eq (pc := 188) (tgt := 193) K dL_law_188 (by decide) (fun _ => ?_) (fun q => absurd (lg_cmp_self _) q)
    refine r_goto (pc := 193) (tgt := 1301) K dL_law_193 (by decide) ?_
    exact r_widen (by omega) (by omega) (r_weak (lv2 := [some (va_rf (some b0)), some (va_rf (some ax)), some (va_rf (some am)), some (va_rf (some ao)), some (.int x4), none, none]) ⟨rfl, rfl, rfl, rfl, rfl, trivial⟩ (kk z))
set_option maxRecDepth 100000 in
set_option maxHeartbeats 4000000 in
theorem LC_1 (K : Cx strL D cA h0 p l s m args meth c cL_law RL 7) {Q : State → Prop} {cells slots ax am ao b0 L : Nat} {xs : Nat → Int32} {x4 : Int32} {hp : hpT} {k b : Int32} {h2 : hpT} {g3 : Nat → Option va_E} (hc : cells + 6 ≤ 601024) (hs : slots + 125 ≤ 7293034) (hX : va_X b0 L xs s s.heap) (hbl : b0 < s.heap.size) (hbA : ¬ Af h0 b0) (i1 : vp_in (x4 + 1) L) (i2 : vp_in (x4 + 2) L) (i3 : vp_in (x4 + 3) L) (i4 : vp_in (x4 + 4) L) (hx7 : ∃ fs, hp.2 ax = some (.inr (7, fs))) (hx8 : ∃ fs, h2.2 am = some (.inr (8, fs))) (hx9 : ∃ fs, g3 am = some (.inr (8, fs))) (hw : wrap cs_L_paint (F_X7_paint ax (xs (x4 + 1).toNatClampNeg) (xs (x4 + 2).toNatClampNeg) (xs (x4 + 3).toNatClampNeg) (xs (x4 + 4).toNatClampNeg) hp) ao = some (.inl k, h2)) (hM : ∀ z, F_X8_paint am (xs (x4 + 1).toNatClampNeg) (xs (x4 + 2).toNatClampNeg) (xs (x4 + 3).toNatClampNeg) (xs (x4 + 4).toNatClampNeg) (z, h2.2) = some (.inl b, (z, g3))) (hT : ∀ z, F_X8_thrown am (z, g3) = some (.inl k, (z, g3))) (hO : k = 0 → ∃ n f, g3 ao = some (.inl (1, n, .inr (.inl f))) ∧ 0 < n ∧ f 0 = b.toInt64) (kk : ∀ z, G D cA h0 p l e room_1 s m args below meth c 7 Q (cells + 6) (slots + 125) (z, g3) 1301 [some (va_rf (some b0)), some (va_rf (some ax)), some (va_rf (some am)), some (va_rf (some ao)), some (.int x4), none, none] []) : G D cA h0 p l e room_1 s m args below meth c 7 Q cells slots hp 196 [some (va_rf (some b0)), some (va_rf (some ax)), some (va_rf (some am)), some (va_rf (some ao)), some (.int x4), none, none] [] := by
  obtain ⟨fs7, hx7⟩ := hx7
  obtain ⟨fs8, hx8⟩ := hx8
  obtain ⟨fs9, hx9⟩ := hx9
  refine r_aload_n (pc := 196) K dL_law_196 rfl ?_
  refine r_aload_n (pc := 197) K dL_law_197 rfl ?_
  refine r_iload (pc := 198) K dL_law_198 rfl ?_
  refine r_iconst (pc := 200) (v := 1) K dL_law_200 (by decide) ?_
  refine r_iadd (pc := 201) K dL_law_201 ?_
  refine r_sld (pc := 202) K hX hbl hbA i1 dL_law_202 ?_
  refine r_aload_n (pc := 203) K dL_law_203 rfl ?_
  refine r_iload (pc := 204) K dL_law_204 rfl ?_
  refine r_iconst (pc := 206) (v := 2) K dL_law_206 (by decide) ?_
  refine r_iadd (pc := 207) K dL_law_207 ?_
  refine r_sld (pc := 208) K hX hbl hbA i2 dL_law_208 ?_
  refine r_aload_n (pc := 209) K dL_law_209 rfl ?_
  refine r_iload (pc := 210) K dL_law_210 rfl ?_
  refine r_iconst (pc := 212) (v := 3) K dL_law_212 (by decide) ?_
  refine r_iadd (pc := 213) K dL_law_213 ?_
  refine r_sld (pc := 214) K hX hbl hbA i3 dL_law_214 ?_
  refine r_aload_n (pc := 215) K dL_law_215 rfl ?_
  refine r_iload (pc := 216) K dL_law_216 rfl ?_
  refine r_iconst (pc := 218) (v := 4) K dL_law_218 (by decide) ?_
  refine r_iadd (pc := 219) K dL_law_219 ?_
  refine r_sld (pc := 220) K hX hbl hbA i4 dL_law_220 ?_
  refine r_aload_n (pc := 221) K dL_law_221 rfl ?_
  refine w_int (pc := 222) (st := []) (As := [va_rf (some ax), .int (xs (x4 + 1).toNatClampNeg), .int (xs (x4 + 2).toNatClampNeg), .int (xs (x4 + 3).toNatClampNeg), .int (xs (x4 + 4).toNatClampNeg), va_rf (some ao)]) K (M_L_paint K.2.2.2.2.2.2.1 _ _ _ _ _ _ _ _ ⟨fs7, hx7⟩ hw) dL_law_222 cw_L_paint cs_w_L_paint lw_RL_79 rfl rfl (by decide) rfl rfl (Nat.le_of_ble_eq_true rfl) (by show _ ≤ 601024; omega) (by show _ ≤ 7293034; omega) (fun z => ?_)
  refine r_istore (pc := 225) (lv' := [some (va_rf (some b0)), some (va_rf (some ax)), some (va_rf (some am)), some (va_rf (some ao)), some (.int x4), some (.int k), none]) K dL_law_225 (by decide) rfl ?_
  refine r_aload_n (pc := 227) K dL_law_227 rfl ?_
  refine r_aload_n (pc := 228) K dL_law_228 rfl ?_
  refine r_iload (pc := 229) K dL_law_229 rfl ?_
  refine r_iconst (pc := 231) (v := 1) K dL_law_231 (by decide) ?_
  refine r_iadd (pc := 232) K dL_law_232 ?_
  refine r_sld (pc := 233) K hX hbl hbA i1 dL_law_233 ?_
  refine r_aload_n (pc := 234) K dL_law_234 rfl ?_
  refine r_iload (pc := 235) K dL_law_235 rfl ?_
  refine r_iconst (pc := 237) (v := 2) K dL_law_237 (by decide) ?_
  refine r_iadd (pc := 238) K dL_law_238 ?_
  refine r_sld (pc := 239) K hX hbl hbA i2 dL_law_239 ?_
  refine r_aload_n (pc := 240) K dL_law_240 rfl ?_
  refine r_iload (pc := 241) K dL_law_241 rfl ?_
  refine r_iconst (pc := 243) (v := 3) K dL_law_243 (by decide) ?_
  refine r_iadd (pc := 244) K dL_law_244 ?_
  refine r_sld (pc := 245) K hX hbl hbA i3 dL_law_245 ?_
  refine r_aload_n (pc := 246) K dL_law_246 rfl ?_
  refine r_iload (pc := 247) K dL_law_247 rfl ?_
  refine r_iconst (pc := 249) (v := 4) K dL_law_249 (by decide) ?_
  refine r_iadd (pc := 250) K dL_law_250 ?_
  refine r_sld (pc := 251) K hX hbl hbA i4 dL_law_251 ?_
  refine m_int (pc := 252) (st := []) (As := [.int (xs (x4 + 1).toNatClampNeg), .int (xs (x4 + 2).toNatClampNeg), .int (xs (x4 + 3).toNatClampNeg), .int (xs (x4 + 4).toNatClampNeg)]) (b := am) (ci := 8) (q0 := (RX8, TX8, 29)) K (M_X8_paint K.2.2.2.2.2.2.1 _ _ _ _ _ _ _ (hM z)) dL_law_252 ce_X8_paint cv_X8_paint lk_RL_82 rfl rfl hx8 rfl rfl (by decide) rfl rfl (Nat.le_of_ble_eq_true rfl) (by show _ ≤ 601024; omega) (by show _ ≤ 7293034; omega) ?_
  refine r_istore (pc := 255) (lv' := [some (va_rf (some b0)), some (va_rf (some ax)), some (va_rf (some am)), some (va_rf (some ao)), some (.int x4), some (.int k), some (.int b)]) K dL_law_255 (by decide) rfl ?_
  refine r_aload_n (pc := 257) K dL_law_257 rfl ?_
  refine m_int (pc := 258) (st := []) (As := []) (b := am) (ci := 8) (q0 := (RX8, TX8, 29)) K (M_X8_thrown K.2.2.2.2.2.2.1 _ _ _ (hT z)) dL_law_258 ce_X8_thrown cv_X8_thrown lk_RL_75 rfl rfl hx9 rfl rfl (by decide) rfl rfl (Nat.le_of_ble_eq_true rfl) (by show _ ≤ 601024; omega) (by show _ ≤ 7293034; omega) ?_
  refine r_iload (pc := 261) K dL_law_261 rfl ?_
  refine q_icmp_eq (pc := 263) (tgt := 268) K dL_law_263 (by decide) (fun _ => ?_) (fun q => absurd rfl q)
  refine r_iload (pc := 268) K dL_law_268 rfl ?_
  refine q_if_ne (pc := 270) (tgt := 285) K dL_law_270 (by decide) (fun _ => ?_) (fun q => ?_)
  · refine r_goto (pc := 285) (tgt := 1301) K dL_law_285 (by decide) ?_
    exact r_widen (by omega) (by omega) (r_weak (lv2 := [some (va_rf (some b0)), some (va_rf (some ax)), some (va_rf (some am)), some (va_rf (some ao)), some (.int x4), none, none]) ⟨rfl, rfl, rfl, rfl, rfl, trivial⟩ (kk z))
  · obtain ⟨n0, f0, g1, g2, g5⟩ := hO q
    refine r_aload_n (pc := 273) K dL_law_273 rfl ?_
    refine r_iconst (pc := 274) (v := 0) K dL_law_274 (by decide) ?_
    have hl9 := ald_out (z := z) g1 g2 g5
    refine r_lald (pc := 275) K dL_law_275 hl9 (fun v9 h9 => ?_)
    have e9 : v9 = b.toInt64 := by cases h9; rfl
    subst e9
    refine r_iload (pc := 276) K dL_law_276 rfl ?_
    refine r_i2l (pc := 278) K dL_law_278 ?_
    refine r_lcmp (pc := 279) K dL_law_279 ?_
    refine q_if_eq (pc := 280) (tgt := 285) K dL_law_280 (by decide) (fun _ => ?_) (fun q => absurd (lg_cmp_self _) q)
    refine r_goto (pc := 285) (tgt := 1301) K dL_law_285 (by decide) ?_
    exact r_widen (by omega) (by omega) (r_weak (lv2 := [some (va_rf (some b0)), some (va_rf (some ax)), some (va_rf (some am)), some (va_rf (some ao)), some (.int x4), none, none]) ⟨rfl, rfl, rfl, rfl, rfl, trivial⟩ (kk z))
set_option maxRecDepth 100000 in
set_option maxHeartbeats 4000000 in
theorem LC_2 (K : Cx strL D cA h0 p l s m args meth c cL_law RL 7) {Q : State → Prop} {cells slots ax am ao b0 L : Nat} {xs : Nat → Int32} {x4 : Int32} {hp : hpT} {k b : Int32} {h2 : hpT} {g3 : Nat → Option va_E} (hc : cells + 6 ≤ 601024) (hs : slots + 125 ≤ 7293034) (hX : va_X b0 L xs s s.heap) (hbl : b0 < s.heap.size) (hbA : ¬ Af h0 b0) (i1 : vp_in (x4 + 1) L) (i2 : vp_in (x4 + 2) L) (i3 : vp_in (x4 + 3) L) (hx7 : ∃ fs, hp.2 ax = some (.inr (7, fs))) (hx8 : ∃ fs, h2.2 am = some (.inr (8, fs))) (hx9 : ∃ fs, g3 am = some (.inr (8, fs))) (hw : wrap cs_L_colour (F_X7_colour ax (xs (x4 + 1).toNatClampNeg) (xs (x4 + 2).toNatClampNeg) (xs (x4 + 3).toNatClampNeg) hp) ao = some (.inl k, h2)) (hM : ∀ z, F_X8_colour am (xs (x4 + 1).toNatClampNeg) (xs (x4 + 2).toNatClampNeg) (xs (x4 + 3).toNatClampNeg) (z, h2.2) = some (.inl b, (z, g3))) (hT : ∀ z, F_X8_thrown am (z, g3) = some (.inl k, (z, g3))) (hO : k = 0 → ∃ n f, g3 ao = some (.inl (1, n, .inr (.inl f))) ∧ 0 < n ∧ f 0 = b.toInt64) (kk : ∀ z, G D cA h0 p l e room_1 s m args below meth c 7 Q (cells + 6) (slots + 125) (z, g3) 1301 [some (va_rf (some b0)), some (va_rf (some ax)), some (va_rf (some am)), some (va_rf (some ao)), some (.int x4), none, none] []) : G D cA h0 p l e room_1 s m args below meth c 7 Q cells slots hp 288 [some (va_rf (some b0)), some (va_rf (some ax)), some (va_rf (some am)), some (va_rf (some ao)), some (.int x4), none, none] [] := by
  obtain ⟨fs7, hx7⟩ := hx7
  obtain ⟨fs8, hx8⟩ := hx8
  obtain ⟨fs9, hx9⟩ := hx9
  refine r_aload_n (pc := 288) K dL_law_288 rfl ?_
  refine r_aload_n (pc := 289) K dL_law_289 rfl ?_
  refine r_iload (pc := 290) K dL_law_290 rfl ?_
  refine r_iconst (pc := 292) (v := 1) K dL_law_292 (by decide) ?_
  refine r_iadd (pc := 293) K dL_law_293 ?_
  refine r_sld (pc := 294) K hX hbl hbA i1 dL_law_294 ?_
  refine r_aload_n (pc := 295) K dL_law_295 rfl ?_
  refine r_iload (pc := 296) K dL_law_296 rfl ?_
  refine r_iconst (pc := 298) (v := 2) K dL_law_298 (by decide) ?_
  refine r_iadd (pc := 299) K dL_law_299 ?_
  refine r_sld (pc := 300) K hX hbl hbA i2 dL_law_300 ?_
  refine r_aload_n (pc := 301) K dL_law_301 rfl ?_
  refine r_iload (pc := 302) K dL_law_302 rfl ?_
  refine r_iconst (pc := 304) (v := 3) K dL_law_304 (by decide) ?_
  refine r_iadd (pc := 305) K dL_law_305 ?_
  refine r_sld (pc := 306) K hX hbl hbA i3 dL_law_306 ?_
  refine r_aload_n (pc := 307) K dL_law_307 rfl ?_
  refine w_int (pc := 308) (st := []) (As := [va_rf (some ax), .int (xs (x4 + 1).toNatClampNeg), .int (xs (x4 + 2).toNatClampNeg), .int (xs (x4 + 3).toNatClampNeg), va_rf (some ao)]) K (M_L_colour K.2.2.2.2.2.2.1 _ _ _ _ _ _ _ ⟨fs7, hx7⟩ hw) dL_law_308 cw_L_colour cs_w_L_colour lw_RL_83 rfl rfl (by decide) rfl rfl (Nat.le_of_ble_eq_true rfl) (by show _ ≤ 601024; omega) (by show _ ≤ 7293034; omega) (fun z => ?_)
  refine r_istore (pc := 311) (lv' := [some (va_rf (some b0)), some (va_rf (some ax)), some (va_rf (some am)), some (va_rf (some ao)), some (.int x4), some (.int k), none]) K dL_law_311 (by decide) rfl ?_
  refine r_aload_n (pc := 313) K dL_law_313 rfl ?_
  refine r_aload_n (pc := 314) K dL_law_314 rfl ?_
  refine r_iload (pc := 315) K dL_law_315 rfl ?_
  refine r_iconst (pc := 317) (v := 1) K dL_law_317 (by decide) ?_
  refine r_iadd (pc := 318) K dL_law_318 ?_
  refine r_sld (pc := 319) K hX hbl hbA i1 dL_law_319 ?_
  refine r_aload_n (pc := 320) K dL_law_320 rfl ?_
  refine r_iload (pc := 321) K dL_law_321 rfl ?_
  refine r_iconst (pc := 323) (v := 2) K dL_law_323 (by decide) ?_
  refine r_iadd (pc := 324) K dL_law_324 ?_
  refine r_sld (pc := 325) K hX hbl hbA i2 dL_law_325 ?_
  refine r_aload_n (pc := 326) K dL_law_326 rfl ?_
  refine r_iload (pc := 327) K dL_law_327 rfl ?_
  refine r_iconst (pc := 329) (v := 3) K dL_law_329 (by decide) ?_
  refine r_iadd (pc := 330) K dL_law_330 ?_
  refine r_sld (pc := 331) K hX hbl hbA i3 dL_law_331 ?_
  refine m_int (pc := 332) (st := []) (As := [.int (xs (x4 + 1).toNatClampNeg), .int (xs (x4 + 2).toNatClampNeg), .int (xs (x4 + 3).toNatClampNeg)]) (b := am) (ci := 8) (q0 := (RX8, TX8, 29)) K (M_X8_colour K.2.2.2.2.2.2.1 _ _ _ _ _ _ (hM z)) dL_law_332 ce_X8_colour cv_X8_colour lk_RL_85 rfl rfl hx8 rfl rfl (by decide) rfl rfl (Nat.le_of_ble_eq_true rfl) (by show _ ≤ 601024; omega) (by show _ ≤ 7293034; omega) ?_
  refine r_istore (pc := 335) (lv' := [some (va_rf (some b0)), some (va_rf (some ax)), some (va_rf (some am)), some (va_rf (some ao)), some (.int x4), some (.int k), some (.int b)]) K dL_law_335 (by decide) rfl ?_
  refine r_aload_n (pc := 337) K dL_law_337 rfl ?_
  refine m_int (pc := 338) (st := []) (As := []) (b := am) (ci := 8) (q0 := (RX8, TX8, 29)) K (M_X8_thrown K.2.2.2.2.2.2.1 _ _ _ (hT z)) dL_law_338 ce_X8_thrown cv_X8_thrown lk_RL_75 rfl rfl hx9 rfl rfl (by decide) rfl rfl (Nat.le_of_ble_eq_true rfl) (by show _ ≤ 601024; omega) (by show _ ≤ 7293034; omega) ?_
  refine r_iload (pc := 341) K dL_law_341 rfl ?_
  refine q_icmp_eq (pc := 343) (tgt := 348) K dL_law_343 (by decide) (fun _ => ?_) (fun q => absurd rfl q)
  refine r_iload (pc := 348) K dL_law_348 rfl ?_
  refine q_if_ne (pc := 350) (tgt := 365) K dL_law_350 (by decide) (fun _ => ?_) (fun q => ?_)
  · refine r_goto (pc := 365) (tgt := 1301) K dL_law_365 (by decide) ?_
    exact r_widen (by omega) (by omega) (r_weak (lv2 := [some (va_rf (some b0)), some (va_rf (some ax)), some (va_rf (some am)), some (va_rf (some ao)), some (.int x4), none, none]) ⟨rfl, rfl, rfl, rfl, rfl, trivial⟩ (kk z))
  · obtain ⟨n0, f0, g1, g2, g5⟩ := hO q
    refine r_aload_n (pc := 353) K dL_law_353 rfl ?_
    refine r_iconst (pc := 354) (v := 0) K dL_law_354 (by decide) ?_
    have hl9 := ald_out (z := z) g1 g2 g5
    refine r_lald (pc := 355) K dL_law_355 hl9 (fun v9 h9 => ?_)
    have e9 : v9 = b.toInt64 := by cases h9; rfl
    subst e9
    refine r_iload (pc := 356) K dL_law_356 rfl ?_
    refine r_i2l (pc := 358) K dL_law_358 ?_
    refine r_lcmp (pc := 359) K dL_law_359 ?_
    refine q_if_eq (pc := 360) (tgt := 365) K dL_law_360 (by decide) (fun _ => ?_) (fun q => absurd (lg_cmp_self _) q)
    refine r_goto (pc := 365) (tgt := 1301) K dL_law_365 (by decide) ?_
    exact r_widen (by omega) (by omega) (r_weak (lv2 := [some (va_rf (some b0)), some (va_rf (some ax)), some (va_rf (some am)), some (va_rf (some ao)), some (.int x4), none, none]) ⟨rfl, rfl, rfl, rfl, rfl, trivial⟩ (kk z))
set_option maxRecDepth 100000 in
set_option maxHeartbeats 4000000 in
theorem LC_3 (K : Cx strL D cA h0 p l s m args meth c cL_law RL 7) {Q : State → Prop} {cells slots ax am ao b0 L : Nat} {xs : Nat → Int32} {x4 : Int32} {hp : hpT} {k b : Int32} {h2 : hpT} {g3 : Nat → Option va_E} (hc : cells + 6 ≤ 601024) (hs : slots + 125 ≤ 7293034) (hX : va_X b0 L xs s s.heap) (hbl : b0 < s.heap.size) (hbA : ¬ Af h0 b0) (i1 : vp_in (x4 + 1) L) (i2 : vp_in (x4 + 2) L) (hx7 : ∃ fs, hp.2 ax = some (.inr (7, fs))) (hx8 : ∃ fs, h2.2 am = some (.inr (8, fs))) (hx9 : ∃ fs, g3 am = some (.inr (8, fs))) (hw : wrap cs_L_repeat (F_X7_repeat ax (xs (x4 + 1).toNatClampNeg) (if (xs (x4 + 2).toNatClampNeg) = 0 then 0 else 1) hp) ao = some (.inl k, h2)) (hM : ∀ z, F_X8_repeat am (xs (x4 + 1).toNatClampNeg) (if (xs (x4 + 2).toNatClampNeg) = 0 then 0 else 1) (z, h2.2) = some (.inl b, (z, g3))) (hT : ∀ z, F_X8_thrown am (z, g3) = some (.inl k, (z, g3))) (hO : k = 0 → ∃ n f, g3 ao = some (.inl (1, n, .inr (.inl f))) ∧ 0 < n ∧ f 0 = b.toInt64) (kk : ∀ z, G D cA h0 p l e room_1 s m args below meth c 7 Q (cells + 6) (slots + 125) (z, g3) 1301 [some (va_rf (some b0)), some (va_rf (some ax)), some (va_rf (some am)), some (va_rf (some ao)), some (.int x4), none, none] []) : G D cA h0 p l e room_1 s m args below meth c 7 Q cells slots hp 368 [some (va_rf (some b0)), some (va_rf (some ax)), some (va_rf (some am)), some (va_rf (some ao)), some (.int x4), none, none] [] := by
  obtain ⟨fs7, hx7⟩ := hx7
  obtain ⟨fs8, hx8⟩ := hx8
  obtain ⟨fs9, hx9⟩ := hx9
  refine r_aload_n (pc := 368) K dL_law_368 rfl ?_
  refine r_aload_n (pc := 369) K dL_law_369 rfl ?_
  refine r_iload (pc := 370) K dL_law_370 rfl ?_
  refine r_iconst (pc := 372) (v := 1) K dL_law_372 (by decide) ?_
  refine r_iadd (pc := 373) K dL_law_373 ?_
  refine r_sld (pc := 374) K hX hbl hbA i1 dL_law_374 ?_
  refine r_aload_n (pc := 375) K dL_law_375 rfl ?_
  refine r_iload (pc := 376) K dL_law_376 rfl ?_
  refine r_iconst (pc := 378) (v := 2) K dL_law_378 (by decide) ?_
  refine r_iadd (pc := 379) K dL_law_379 ?_
  refine r_sld (pc := 380) K hX hbl hbA i2 dL_law_380 ?_
  by_cases c0 : (xs (x4 + 2).toNatClampNeg) = 0
  · simp only [if_pos c0] at hw hM
    refine q_if_eq (pc := 381) (tgt := 388) K dL_law_381 (by decide) (fun _ => ?_) (fun q => absurd c0 q)
    refine r_iconst (pc := 388) (v := 0) K dL_law_388 (by decide) ?_
    refine r_aload_n (pc := 389) K dL_law_389 rfl ?_
    refine w_int (pc := 390) (st := []) (As := [va_rf (some ax), .int (xs (x4 + 1).toNatClampNeg), .int 0, va_rf (some ao)]) K (M_L_repeat K.2.2.2.2.2.2.1 _ _ _ _ _ _ ⟨fs7, hx7⟩ hw) dL_law_390 cw_L_repeat cs_w_L_repeat lw_RL_86 rfl rfl (by decide) rfl rfl (Nat.le_of_ble_eq_true rfl) (by show _ ≤ 601024; omega) (by show _ ≤ 7293034; omega) (fun z => ?_)
    refine r_istore (pc := 393) (lv' := [some (va_rf (some b0)), some (va_rf (some ax)), some (va_rf (some am)), some (va_rf (some ao)), some (.int x4), some (.int k), none]) K dL_law_393 (by decide) rfl ?_
    refine r_aload_n (pc := 395) K dL_law_395 rfl ?_
    refine r_aload_n (pc := 396) K dL_law_396 rfl ?_
    refine r_iload (pc := 397) K dL_law_397 rfl ?_
    refine r_iconst (pc := 399) (v := 1) K dL_law_399 (by decide) ?_
    refine r_iadd (pc := 400) K dL_law_400 ?_
    refine r_sld (pc := 401) K hX hbl hbA i1 dL_law_401 ?_
    refine r_aload_n (pc := 402) K dL_law_402 rfl ?_
    refine r_iload (pc := 403) K dL_law_403 rfl ?_
    refine r_iconst (pc := 405) (v := 2) K dL_law_405 (by decide) ?_
    refine r_iadd (pc := 406) K dL_law_406 ?_
    refine r_sld (pc := 407) K hX hbl hbA i2 dL_law_407 ?_
    refine q_if_eq (pc := 408) (tgt := 415) K dL_law_408 (by decide) (fun _ => ?_) (fun q => absurd c0 q)
    refine r_iconst (pc := 415) (v := 0) K dL_law_415 (by decide) ?_
    refine m_int (pc := 416) (st := []) (As := [.int (xs (x4 + 1).toNatClampNeg), .int 0]) (b := am) (ci := 8) (q0 := (RX8, TX8, 29)) K (M_X8_repeat K.2.2.2.2.2.2.1 _ _ _ _ _ (hM z)) dL_law_416 ce_X8_repeat cv_X8_repeat lk_RL_89 rfl rfl hx8 rfl rfl (by decide) rfl rfl (Nat.le_of_ble_eq_true rfl) (by show _ ≤ 601024; omega) (by show _ ≤ 7293034; omega) ?_
    refine r_istore (pc := 419) (lv' := [some (va_rf (some b0)), some (va_rf (some ax)), some (va_rf (some am)), some (va_rf (some ao)), some (.int x4), some (.int k), some (.int b)]) K dL_law_419 (by decide) rfl ?_
    refine r_aload_n (pc := 421) K dL_law_421 rfl ?_
    refine m_int (pc := 422) (st := []) (As := []) (b := am) (ci := 8) (q0 := (RX8, TX8, 29)) K (M_X8_thrown K.2.2.2.2.2.2.1 _ _ _ (hT z)) dL_law_422 ce_X8_thrown cv_X8_thrown lk_RL_75 rfl rfl hx9 rfl rfl (by decide) rfl rfl (Nat.le_of_ble_eq_true rfl) (by show _ ≤ 601024; omega) (by show _ ≤ 7293034; omega) ?_
    refine r_iload (pc := 425) K dL_law_425 rfl ?_
    refine q_icmp_eq (pc := 427) (tgt := 432) K dL_law_427 (by decide) (fun _ => ?_) (fun q => absurd rfl q)
    refine r_iload (pc := 432) K dL_law_432 rfl ?_
    refine q_if_ne (pc := 434) (tgt := 449) K dL_law_434 (by decide) (fun _ => ?_) (fun q => ?_)
    · refine r_goto (pc := 449) (tgt := 1301) K dL_law_449 (by decide) ?_
      exact r_widen (by omega) (by omega) (r_weak (lv2 := [some (va_rf (some b0)), some (va_rf (some ax)), some (va_rf (some am)), some (va_rf (some ao)), some (.int x4), none, none]) ⟨rfl, rfl, rfl, rfl, rfl, trivial⟩ (kk z))
    · obtain ⟨n0, f0, g1, g2, g5⟩ := hO q
      refine r_aload_n (pc := 437) K dL_law_437 rfl ?_
      refine r_iconst (pc := 438) (v := 0) K dL_law_438 (by decide) ?_
      have hl9 := ald_out (z := z) g1 g2 g5
      refine r_lald (pc := 439) K dL_law_439 hl9 (fun v9 h9 => ?_)
      have e9 : v9 = b.toInt64 := by cases h9; rfl
      subst e9
      refine r_iload (pc := 440) K dL_law_440 rfl ?_
      refine r_i2l (pc := 442) K dL_law_442 ?_
      refine r_lcmp (pc := 443) K dL_law_443 ?_
      refine q_if_eq (pc := 444) (tgt := 449) K dL_law_444 (by decide) (fun _ => ?_) (fun q => absurd (lg_cmp_self _) q)
      refine r_goto (pc := 449) (tgt := 1301) K dL_law_449 (by decide) ?_
      exact r_widen (by omega) (by omega) (r_weak (lv2 := [some (va_rf (some b0)), some (va_rf (some ax)), some (va_rf (some am)), some (va_rf (some ao)), some (.int x4), none, none]) ⟨rfl, rfl, rfl, rfl, rfl, trivial⟩ (kk z))
  · simp only [if_neg c0] at hw hM
    refine q_if_eq (pc := 381) (tgt := 388) K dL_law_381 (by decide) (fun q => absurd q c0) (fun _ => ?_)
    refine r_iconst (pc := 384) (v := 1) K dL_law_384 (by decide) ?_
    refine r_goto (pc := 385) (tgt := 389) K dL_law_385 (by decide) ?_
    refine r_aload_n (pc := 389) K dL_law_389 rfl ?_
    refine w_int (pc := 390) (st := []) (As := [va_rf (some ax), .int (xs (x4 + 1).toNatClampNeg), .int 1, va_rf (some ao)]) K (M_L_repeat K.2.2.2.2.2.2.1 _ _ _ _ _ _ ⟨fs7, hx7⟩ hw) dL_law_390 cw_L_repeat cs_w_L_repeat lw_RL_86 rfl rfl (by decide) rfl rfl (Nat.le_of_ble_eq_true rfl) (by show _ ≤ 601024; omega) (by show _ ≤ 7293034; omega) (fun z => ?_)
    refine r_istore (pc := 393) (lv' := [some (va_rf (some b0)), some (va_rf (some ax)), some (va_rf (some am)), some (va_rf (some ao)), some (.int x4), some (.int k), none]) K dL_law_393 (by decide) rfl ?_
    refine r_aload_n (pc := 395) K dL_law_395 rfl ?_
    refine r_aload_n (pc := 396) K dL_law_396 rfl ?_
    refine r_iload (pc := 397) K dL_law_397 rfl ?_
    refine r_iconst (pc := 399) (v := 1) K dL_law_399 (by decide) ?_
    refine r_iadd (pc := 400) K dL_law_400 ?_
    refine r_sld (pc := 401) K hX hbl hbA i1 dL_law_401 ?_
    refine r_aload_n (pc := 402) K dL_law_402 rfl ?_
    refine r_iload (pc := 403) K dL_law_403 rfl ?_
    refine r_iconst (pc := 405) (v := 2) K dL_law_405 (by decide) ?_
    refine r_iadd (pc := 406) K dL_law_406 ?_
    refine r_sld (pc := 407) K hX hbl hbA i2 dL_law_407 ?_
    refine q_if_eq (pc := 408) (tgt := 415) K dL_law_408 (by decide) (fun q => absurd q c0) (fun _ => ?_)
    refine r_iconst (pc := 411) (v := 1) K dL_law_411 (by decide) ?_
    refine r_goto (pc := 412) (tgt := 416) K dL_law_412 (by decide) ?_
    refine m_int (pc := 416) (st := []) (As := [.int (xs (x4 + 1).toNatClampNeg), .int 1]) (b := am) (ci := 8) (q0 := (RX8, TX8, 29)) K (M_X8_repeat K.2.2.2.2.2.2.1 _ _ _ _ _ (hM z)) dL_law_416 ce_X8_repeat cv_X8_repeat lk_RL_89 rfl rfl hx8 rfl rfl (by decide) rfl rfl (Nat.le_of_ble_eq_true rfl) (by show _ ≤ 601024; omega) (by show _ ≤ 7293034; omega) ?_
    refine r_istore (pc := 419) (lv' := [some (va_rf (some b0)), some (va_rf (some ax)), some (va_rf (some am)), some (va_rf (some ao)), some (.int x4), some (.int k), some (.int b)]) K dL_law_419 (by decide) rfl ?_
    refine r_aload_n (pc := 421) K dL_law_421 rfl ?_
    refine m_int (pc := 422) (st := []) (As := []) (b := am) (ci := 8) (q0 := (RX8, TX8, 29)) K (M_X8_thrown K.2.2.2.2.2.2.1 _ _ _ (hT z)) dL_law_422 ce_X8_thrown cv_X8_thrown lk_RL_75 rfl rfl hx9 rfl rfl (by decide) rfl rfl (Nat.le_of_ble_eq_true rfl) (by show _ ≤ 601024; omega) (by show _ ≤ 7293034; omega) ?_
    refine r_iload (pc := 425) K dL_law_425 rfl ?_
    refine q_icmp_eq (pc := 427) (tgt := 432) K dL_law_427 (by decide) (fun _ => ?_) (fun q => absurd rfl q)
    refine r_iload (pc := 432) K dL_law_432 rfl ?_
    refine q_if_ne (pc := 434) (tgt := 449) K dL_law_434 (by decide) (fun _ => ?_) (fun q => ?_)
    · refine r_goto (pc := 449) (tgt := 1301) K dL_law_449 (by decide) ?_
      exact r_widen (by omega) (by omega) (r_weak (lv2 := [some (va_rf (some b0)), some (va_rf (some ax)), some (va_rf (some am)), some (va_rf (some ao)), some (.int x4), none, none]) ⟨rfl, rfl, rfl, rfl, rfl, trivial⟩ (kk z))
    · obtain ⟨n0, f0, g1, g2, g5⟩ := hO q
      refine r_aload_n (pc := 437) K dL_law_437 rfl ?_
      refine r_iconst (pc := 438) (v := 0) K dL_law_438 (by decide) ?_
      have hl9 := ald_out (z := z) g1 g2 g5
      refine r_lald (pc := 439) K dL_law_439 hl9 (fun v9 h9 => ?_)
      have e9 : v9 = b.toInt64 := by cases h9; rfl
      subst e9
      refine r_iload (pc := 440) K dL_law_440 rfl ?_
      refine r_i2l (pc := 442) K dL_law_442 ?_
      refine r_lcmp (pc := 443) K dL_law_443 ?_
      refine q_if_eq (pc := 444) (tgt := 449) K dL_law_444 (by decide) (fun _ => ?_) (fun q => absurd (lg_cmp_self _) q)
      refine r_goto (pc := 449) (tgt := 1301) K dL_law_449 (by decide) ?_
      exact r_widen (by omega) (by omega) (r_weak (lv2 := [some (va_rf (some b0)), some (va_rf (some ax)), some (va_rf (some am)), some (va_rf (some ao)), some (.int x4), none, none]) ⟨rfl, rfl, rfl, rfl, rfl, trivial⟩ (kk z))
set_option maxRecDepth 100000 in
set_option maxHeartbeats 4000000 in
theorem LC_4 (K : Cx strL D cA h0 p l s m args meth c cL_law RL 7) {Q : State → Prop} {cells slots ax am ao b0 L : Nat} {xs : Nat → Int32} {x4 : Int32} {hp : hpT} {k b : Int32} {h2 : hpT} {g3 : Nat → Option va_E} (hc : cells + 6 ≤ 601024) (hs : slots + 125 ≤ 7293034) (hX : va_X b0 L xs s s.heap) (hbl : b0 < s.heap.size) (hbA : ¬ Af h0 b0) (i1 : vp_in (x4 + 1) L) (i2 : vp_in (x4 + 2) L) (hx7 : ∃ fs, hp.2 ax = some (.inr (7, fs))) (hx8 : ∃ fs, h2.2 am = some (.inr (8, fs))) (hx9 : ∃ fs, g3 am = some (.inr (8, fs))) (hw : wrap cs_L_repeatAnew (F_X7_repeatAnew ax (xs (x4 + 1).toNatClampNeg) (if (xs (x4 + 2).toNatClampNeg) = 0 then 0 else 1) hp) ao = some (.inl k, h2)) (hM : ∀ z, F_X8_repeatAnew am (xs (x4 + 1).toNatClampNeg) (if (xs (x4 + 2).toNatClampNeg) = 0 then 0 else 1) (z, h2.2) = some (.inl b, (z, g3))) (hT : ∀ z, F_X8_thrown am (z, g3) = some (.inl k, (z, g3))) (hO : k = 0 → ∃ n f, g3 ao = some (.inl (1, n, .inr (.inl f))) ∧ 0 < n ∧ f 0 = b.toInt64) (kk : ∀ z, G D cA h0 p l e room_1 s m args below meth c 7 Q (cells + 6) (slots + 125) (z, g3) 1301 [some (va_rf (some b0)), some (va_rf (some ax)), some (va_rf (some am)), some (va_rf (some ao)), some (.int x4), none, none] []) : G D cA h0 p l e room_1 s m args below meth c 7 Q cells slots hp 452 [some (va_rf (some b0)), some (va_rf (some ax)), some (va_rf (some am)), some (va_rf (some ao)), some (.int x4), none, none] [] := by
  obtain ⟨fs7, hx7⟩ := hx7
  obtain ⟨fs8, hx8⟩ := hx8
  obtain ⟨fs9, hx9⟩ := hx9
  refine r_aload_n (pc := 452) K dL_law_452 rfl ?_
  refine r_aload_n (pc := 453) K dL_law_453 rfl ?_
  refine r_iload (pc := 454) K dL_law_454 rfl ?_
  refine r_iconst (pc := 456) (v := 1) K dL_law_456 (by decide) ?_
  refine r_iadd (pc := 457) K dL_law_457 ?_
  refine r_sld (pc := 458) K hX hbl hbA i1 dL_law_458 ?_
  refine r_aload_n (pc := 459) K dL_law_459 rfl ?_
  refine r_iload (pc := 460) K dL_law_460 rfl ?_
  refine r_iconst (pc := 462) (v := 2) K dL_law_462 (by decide) ?_
  refine r_iadd (pc := 463) K dL_law_463 ?_
  refine r_sld (pc := 464) K hX hbl hbA i2 dL_law_464 ?_
  by_cases c0 : (xs (x4 + 2).toNatClampNeg) = 0
  · simp only [if_pos c0] at hw hM
    refine q_if_eq (pc := 465) (tgt := 472) K dL_law_465 (by decide) (fun _ => ?_) (fun q => absurd c0 q)
    refine r_iconst (pc := 472) (v := 0) K dL_law_472 (by decide) ?_
    refine r_aload_n (pc := 473) K dL_law_473 rfl ?_
    refine w_int (pc := 474) (st := []) (As := [va_rf (some ax), .int (xs (x4 + 1).toNatClampNeg), .int 0, va_rf (some ao)]) K (M_L_repeatAnew K.2.2.2.2.2.2.1 _ _ _ _ _ _ ⟨fs7, hx7⟩ hw) dL_law_474 cw_L_repeatAnew cs_w_L_repeatAnew lw_RL_90 rfl rfl (by decide) rfl rfl (Nat.le_of_ble_eq_true rfl) (by show _ ≤ 601024; omega) (by show _ ≤ 7293034; omega) (fun z => ?_)
    refine r_istore (pc := 477) (lv' := [some (va_rf (some b0)), some (va_rf (some ax)), some (va_rf (some am)), some (va_rf (some ao)), some (.int x4), some (.int k), none]) K dL_law_477 (by decide) rfl ?_
    refine r_aload_n (pc := 479) K dL_law_479 rfl ?_
    refine r_aload_n (pc := 480) K dL_law_480 rfl ?_
    refine r_iload (pc := 481) K dL_law_481 rfl ?_
    refine r_iconst (pc := 483) (v := 1) K dL_law_483 (by decide) ?_
    refine r_iadd (pc := 484) K dL_law_484 ?_
    refine r_sld (pc := 485) K hX hbl hbA i1 dL_law_485 ?_
    refine r_aload_n (pc := 486) K dL_law_486 rfl ?_
    refine r_iload (pc := 487) K dL_law_487 rfl ?_
    refine r_iconst (pc := 489) (v := 2) K dL_law_489 (by decide) ?_
    refine r_iadd (pc := 490) K dL_law_490 ?_
    refine r_sld (pc := 491) K hX hbl hbA i2 dL_law_491 ?_
    refine q_if_eq (pc := 492) (tgt := 499) K dL_law_492 (by decide) (fun _ => ?_) (fun q => absurd c0 q)
    refine r_iconst (pc := 499) (v := 0) K dL_law_499 (by decide) ?_
    refine m_int (pc := 500) (st := []) (As := [.int (xs (x4 + 1).toNatClampNeg), .int 0]) (b := am) (ci := 8) (q0 := (RX8, TX8, 29)) K (M_X8_repeatAnew K.2.2.2.2.2.2.1 _ _ _ _ _ (hM z)) dL_law_500 ce_X8_repeatAnew cv_X8_repeatAnew lk_RL_92 rfl rfl hx8 rfl rfl (by decide) rfl rfl (Nat.le_of_ble_eq_true rfl) (by show _ ≤ 601024; omega) (by show _ ≤ 7293034; omega) ?_
    refine r_istore (pc := 503) (lv' := [some (va_rf (some b0)), some (va_rf (some ax)), some (va_rf (some am)), some (va_rf (some ao)), some (.int x4), some (.int k), some (.int b)]) K dL_law_503 (by decide) rfl ?_
    refine r_aload_n (pc := 505) K dL_law_505 rfl ?_
    refine m_int (pc := 506) (st := []) (As := []) (b := am) (ci := 8) (q0 := (RX8, TX8, 29)) K (M_X8_thrown K.2.2.2.2.2.2.1 _ _ _ (hT z)) dL_law_506 ce_X8_thrown cv_X8_thrown lk_RL_75 rfl rfl hx9 rfl rfl (by decide) rfl rfl (Nat.le_of_ble_eq_true rfl) (by show _ ≤ 601024; omega) (by show _ ≤ 7293034; omega) ?_
    refine r_iload (pc := 509) K dL_law_509 rfl ?_
    refine q_icmp_eq (pc := 511) (tgt := 516) K dL_law_511 (by decide) (fun _ => ?_) (fun q => absurd rfl q)
    refine r_iload (pc := 516) K dL_law_516 rfl ?_
    refine q_if_ne (pc := 518) (tgt := 533) K dL_law_518 (by decide) (fun _ => ?_) (fun q => ?_)
    · refine r_goto (pc := 533) (tgt := 1301) K dL_law_533 (by decide) ?_
      exact r_widen (by omega) (by omega) (r_weak (lv2 := [some (va_rf (some b0)), some (va_rf (some ax)), some (va_rf (some am)), some (va_rf (some ao)), some (.int x4), none, none]) ⟨rfl, rfl, rfl, rfl, rfl, trivial⟩ (kk z))
    · obtain ⟨n0, f0, g1, g2, g5⟩ := hO q
      refine r_aload_n (pc := 521) K dL_law_521 rfl ?_
      refine r_iconst (pc := 522) (v := 0) K dL_law_522 (by decide) ?_
      have hl9 := ald_out (z := z) g1 g2 g5
      refine r_lald (pc := 523) K dL_law_523 hl9 (fun v9 h9 => ?_)
      have e9 : v9 = b.toInt64 := by cases h9; rfl
      subst e9
      refine r_iload (pc := 524) K dL_law_524 rfl ?_
      refine r_i2l (pc := 526) K dL_law_526 ?_
      refine r_lcmp (pc := 527) K dL_law_527 ?_
      refine q_if_eq (pc := 528) (tgt := 533) K dL_law_528 (by decide) (fun _ => ?_) (fun q => absurd (lg_cmp_self _) q)
      refine r_goto (pc := 533) (tgt := 1301) K dL_law_533 (by decide) ?_
      exact r_widen (by omega) (by omega) (r_weak (lv2 := [some (va_rf (some b0)), some (va_rf (some ax)), some (va_rf (some am)), some (va_rf (some ao)), some (.int x4), none, none]) ⟨rfl, rfl, rfl, rfl, rfl, trivial⟩ (kk z))
  · simp only [if_neg c0] at hw hM
    refine q_if_eq (pc := 465) (tgt := 472) K dL_law_465 (by decide) (fun q => absurd q c0) (fun _ => ?_)
    refine r_iconst (pc := 468) (v := 1) K dL_law_468 (by decide) ?_
    refine r_goto (pc := 469) (tgt := 473) K dL_law_469 (by decide) ?_
    refine r_aload_n (pc := 473) K dL_law_473 rfl ?_
    refine w_int (pc := 474) (st := []) (As := [va_rf (some ax), .int (xs (x4 + 1).toNatClampNeg), .int 1, va_rf (some ao)]) K (M_L_repeatAnew K.2.2.2.2.2.2.1 _ _ _ _ _ _ ⟨fs7, hx7⟩ hw) dL_law_474 cw_L_repeatAnew cs_w_L_repeatAnew lw_RL_90 rfl rfl (by decide) rfl rfl (Nat.le_of_ble_eq_true rfl) (by show _ ≤ 601024; omega) (by show _ ≤ 7293034; omega) (fun z => ?_)
    refine r_istore (pc := 477) (lv' := [some (va_rf (some b0)), some (va_rf (some ax)), some (va_rf (some am)), some (va_rf (some ao)), some (.int x4), some (.int k), none]) K dL_law_477 (by decide) rfl ?_
    refine r_aload_n (pc := 479) K dL_law_479 rfl ?_
    refine r_aload_n (pc := 480) K dL_law_480 rfl ?_
    refine r_iload (pc := 481) K dL_law_481 rfl ?_
    refine r_iconst (pc := 483) (v := 1) K dL_law_483 (by decide) ?_
    refine r_iadd (pc := 484) K dL_law_484 ?_
    refine r_sld (pc := 485) K hX hbl hbA i1 dL_law_485 ?_
    refine r_aload_n (pc := 486) K dL_law_486 rfl ?_
    refine r_iload (pc := 487) K dL_law_487 rfl ?_
    refine r_iconst (pc := 489) (v := 2) K dL_law_489 (by decide) ?_
    refine r_iadd (pc := 490) K dL_law_490 ?_
    refine r_sld (pc := 491) K hX hbl hbA i2 dL_law_491 ?_
    refine q_if_eq (pc := 492) (tgt := 499) K dL_law_492 (by decide) (fun q => absurd q c0) (fun _ => ?_)
    refine r_iconst (pc := 495) (v := 1) K dL_law_495 (by decide) ?_
    refine r_goto (pc := 496) (tgt := 500) K dL_law_496 (by decide) ?_
    refine m_int (pc := 500) (st := []) (As := [.int (xs (x4 + 1).toNatClampNeg), .int 1]) (b := am) (ci := 8) (q0 := (RX8, TX8, 29)) K (M_X8_repeatAnew K.2.2.2.2.2.2.1 _ _ _ _ _ (hM z)) dL_law_500 ce_X8_repeatAnew cv_X8_repeatAnew lk_RL_92 rfl rfl hx8 rfl rfl (by decide) rfl rfl (Nat.le_of_ble_eq_true rfl) (by show _ ≤ 601024; omega) (by show _ ≤ 7293034; omega) ?_
    refine r_istore (pc := 503) (lv' := [some (va_rf (some b0)), some (va_rf (some ax)), some (va_rf (some am)), some (va_rf (some ao)), some (.int x4), some (.int k), some (.int b)]) K dL_law_503 (by decide) rfl ?_
    refine r_aload_n (pc := 505) K dL_law_505 rfl ?_
    refine m_int (pc := 506) (st := []) (As := []) (b := am) (ci := 8) (q0 := (RX8, TX8, 29)) K (M_X8_thrown K.2.2.2.2.2.2.1 _ _ _ (hT z)) dL_law_506 ce_X8_thrown cv_X8_thrown lk_RL_75 rfl rfl hx9 rfl rfl (by decide) rfl rfl (Nat.le_of_ble_eq_true rfl) (by show _ ≤ 601024; omega) (by show _ ≤ 7293034; omega) ?_
    refine r_iload (pc := 509) K dL_law_509 rfl ?_
    refine q_icmp_eq (pc := 511) (tgt := 516) K dL_law_511 (by decide) (fun _ => ?_) (fun q => absurd rfl q)
    refine r_iload (pc := 516) K dL_law_516 rfl ?_
    refine q_if_ne (pc := 518) (tgt := 533) K dL_law_518 (by decide) (fun _ => ?_) (fun q => ?_)
    · refine r_goto (pc := 533) (tgt := 1301) K dL_law_533 (by decide) ?_
      exact r_widen (by omega) (by omega) (r_weak (lv2 := [some (va_rf (some b0)), some (va_rf (some ax)), some (va_rf (some am)), some (va_rf (some ao)), some (.int x4), none, none]) ⟨rfl, rfl, rfl, rfl, rfl, trivial⟩ (kk z))
    · obtain ⟨n0, f0, g1, g2, g5⟩ := hO q
      refine r_aload_n (pc := 521) K dL_law_521 rfl ?_
      refine r_iconst (pc := 522) (v := 0) K dL_law_522 (by decide) ?_
      have hl9 := ald_out (z := z) g1 g2 g5
      refine r_lald (pc := 523) K dL_law_523 hl9 (fun v9 h9 => ?_)
      have e9 : v9 = b.toInt64 := by cases h9; rfl
      subst e9
      refine r_iload (pc := 524) K dL_law_524 rfl ?_
      refine r_i2l (pc := 526) K dL_law_526 ?_
      refine r_lcmp (pc := 527) K dL_law_527 ?_
      refine q_if_eq (pc := 528) (tgt := 533) K dL_law_528 (by decide) (fun _ => ?_) (fun q => absurd (lg_cmp_self _) q)
      refine r_goto (pc := 533) (tgt := 1301) K dL_law_533 (by decide) ?_
      exact r_widen (by omega) (by omega) (r_weak (lv2 := [some (va_rf (some b0)), some (va_rf (some ax)), some (va_rf (some am)), some (va_rf (some ao)), some (.int x4), none, none]) ⟨rfl, rfl, rfl, rfl, rfl, trivial⟩ (kk z))
set_option maxRecDepth 100000 in
set_option maxHeartbeats 4000000 in
theorem LC_5 (K : Cx strL D cA h0 p l s m args meth c cL_law RL 7) {Q : State → Prop} {cells slots ax am ao b0 L : Nat} {xs : Nat → Int32} {x4 : Int32} {hp : hpT} {k b : Int32} {h2 : hpT} {g3 : Nat → Option va_E} (hc : cells + 6 ≤ 601024) (hs : slots + 125 ≤ 7293034) (hX : va_X b0 L xs s s.heap) (hbl : b0 < s.heap.size) (hbA : ¬ Af h0 b0) (i1 : vp_in (x4 + 1) L) (i2 : vp_in (x4 + 2) L) (hx7 : ∃ fs, hp.2 ax = some (.inr (7, fs))) (hx8 : ∃ fs, h2.2 am = some (.inr (8, fs))) (hx9 : ∃ fs, g3 am = some (.inr (8, fs))) (hw : wrap cs_L_roller (F_X7_roller ax (xs (x4 + 1).toNatClampNeg) (xs (x4 + 2).toNatClampNeg) hp) ao = some (.inl k, h2)) (hM : ∀ z, F_X8_roller am (xs (x4 + 1).toNatClampNeg) (xs (x4 + 2).toNatClampNeg) (z, h2.2) = some (.inl b, (z, g3))) (hT : ∀ z, F_X8_thrown am (z, g3) = some (.inl k, (z, g3))) (hO : k = 0 → ∃ n f, g3 ao = some (.inl (1, n, .inr (.inl f))) ∧ 0 < n ∧ f 0 = b.toInt64) (kk : ∀ z, G D cA h0 p l e room_1 s m args below meth c 7 Q (cells + 6) (slots + 125) (z, g3) 1301 [some (va_rf (some b0)), some (va_rf (some ax)), some (va_rf (some am)), some (va_rf (some ao)), some (.int x4), none, none] []) : G D cA h0 p l e room_1 s m args below meth c 7 Q cells slots hp 536 [some (va_rf (some b0)), some (va_rf (some ax)), some (va_rf (some am)), some (va_rf (some ao)), some (.int x4), none, none] [] := by
  obtain ⟨fs7, hx7⟩ := hx7
  obtain ⟨fs8, hx8⟩ := hx8
  obtain ⟨fs9, hx9⟩ := hx9
  refine r_aload_n (pc := 536) K dL_law_536 rfl ?_
  refine r_aload_n (pc := 537) K dL_law_537 rfl ?_
  refine r_iload (pc := 538) K dL_law_538 rfl ?_
  refine r_iconst (pc := 540) (v := 1) K dL_law_540 (by decide) ?_
  refine r_iadd (pc := 541) K dL_law_541 ?_
  refine r_sld (pc := 542) K hX hbl hbA i1 dL_law_542 ?_
  refine r_aload_n (pc := 543) K dL_law_543 rfl ?_
  refine r_iload (pc := 544) K dL_law_544 rfl ?_
  refine r_iconst (pc := 546) (v := 2) K dL_law_546 (by decide) ?_
  refine r_iadd (pc := 547) K dL_law_547 ?_
  refine r_sld (pc := 548) K hX hbl hbA i2 dL_law_548 ?_
  refine r_aload_n (pc := 549) K dL_law_549 rfl ?_
  refine w_int (pc := 550) (st := []) (As := [va_rf (some ax), .int (xs (x4 + 1).toNatClampNeg), .int (xs (x4 + 2).toNatClampNeg), va_rf (some ao)]) K (M_L_roller K.2.2.2.2.2.2.1 _ _ _ _ _ _ ⟨fs7, hx7⟩ hw) dL_law_550 cw_L_roller cs_w_L_roller lw_RL_93 rfl rfl (by decide) rfl rfl (Nat.le_of_ble_eq_true rfl) (by show _ ≤ 601024; omega) (by show _ ≤ 7293034; omega) (fun z => ?_)
  refine r_istore (pc := 553) (lv' := [some (va_rf (some b0)), some (va_rf (some ax)), some (va_rf (some am)), some (va_rf (some ao)), some (.int x4), some (.int k), none]) K dL_law_553 (by decide) rfl ?_
  refine r_aload_n (pc := 555) K dL_law_555 rfl ?_
  refine r_aload_n (pc := 556) K dL_law_556 rfl ?_
  refine r_iload (pc := 557) K dL_law_557 rfl ?_
  refine r_iconst (pc := 559) (v := 1) K dL_law_559 (by decide) ?_
  refine r_iadd (pc := 560) K dL_law_560 ?_
  refine r_sld (pc := 561) K hX hbl hbA i1 dL_law_561 ?_
  refine r_aload_n (pc := 562) K dL_law_562 rfl ?_
  refine r_iload (pc := 563) K dL_law_563 rfl ?_
  refine r_iconst (pc := 565) (v := 2) K dL_law_565 (by decide) ?_
  refine r_iadd (pc := 566) K dL_law_566 ?_
  refine r_sld (pc := 567) K hX hbl hbA i2 dL_law_567 ?_
  refine m_int (pc := 568) (st := []) (As := [.int (xs (x4 + 1).toNatClampNeg), .int (xs (x4 + 2).toNatClampNeg)]) (b := am) (ci := 8) (q0 := (RX8, TX8, 29)) K (M_X8_roller K.2.2.2.2.2.2.1 _ _ _ _ _ (hM z)) dL_law_568 ce_X8_roller cv_X8_roller lk_RL_96 rfl rfl hx8 rfl rfl (by decide) rfl rfl (Nat.le_of_ble_eq_true rfl) (by show _ ≤ 601024; omega) (by show _ ≤ 7293034; omega) ?_
  refine r_istore (pc := 571) (lv' := [some (va_rf (some b0)), some (va_rf (some ax)), some (va_rf (some am)), some (va_rf (some ao)), some (.int x4), some (.int k), some (.int b)]) K dL_law_571 (by decide) rfl ?_
  refine r_aload_n (pc := 573) K dL_law_573 rfl ?_
  refine m_int (pc := 574) (st := []) (As := []) (b := am) (ci := 8) (q0 := (RX8, TX8, 29)) K (M_X8_thrown K.2.2.2.2.2.2.1 _ _ _ (hT z)) dL_law_574 ce_X8_thrown cv_X8_thrown lk_RL_75 rfl rfl hx9 rfl rfl (by decide) rfl rfl (Nat.le_of_ble_eq_true rfl) (by show _ ≤ 601024; omega) (by show _ ≤ 7293034; omega) ?_
  refine r_iload (pc := 577) K dL_law_577 rfl ?_
  refine q_icmp_eq (pc := 579) (tgt := 584) K dL_law_579 (by decide) (fun _ => ?_) (fun q => absurd rfl q)
  refine r_iload (pc := 584) K dL_law_584 rfl ?_
  refine q_if_ne (pc := 586) (tgt := 601) K dL_law_586 (by decide) (fun _ => ?_) (fun q => ?_)
  · refine r_goto (pc := 601) (tgt := 1301) K dL_law_601 (by decide) ?_
    exact r_widen (by omega) (by omega) (r_weak (lv2 := [some (va_rf (some b0)), some (va_rf (some ax)), some (va_rf (some am)), some (va_rf (some ao)), some (.int x4), none, none]) ⟨rfl, rfl, rfl, rfl, rfl, trivial⟩ (kk z))
  · obtain ⟨n0, f0, g1, g2, g5⟩ := hO q
    refine r_aload_n (pc := 589) K dL_law_589 rfl ?_
    refine r_iconst (pc := 590) (v := 0) K dL_law_590 (by decide) ?_
    have hl9 := ald_out (z := z) g1 g2 g5
    refine r_lald (pc := 591) K dL_law_591 hl9 (fun v9 h9 => ?_)
    have e9 : v9 = b.toInt64 := by cases h9; rfl
    subst e9
    refine r_iload (pc := 592) K dL_law_592 rfl ?_
    refine r_i2l (pc := 594) K dL_law_594 ?_
    refine r_lcmp (pc := 595) K dL_law_595 ?_
    refine q_if_eq (pc := 596) (tgt := 601) K dL_law_596 (by decide) (fun _ => ?_) (fun q => absurd (lg_cmp_self _) q)
    refine r_goto (pc := 601) (tgt := 1301) K dL_law_601 (by decide) ?_
    exact r_widen (by omega) (by omega) (r_weak (lv2 := [some (va_rf (some b0)), some (va_rf (some ax)), some (va_rf (some am)), some (va_rf (some ao)), some (.int x4), none, none]) ⟨rfl, rfl, rfl, rfl, rfl, trivial⟩ (kk z))
set_option maxRecDepth 100000 in
set_option maxHeartbeats 4000000 in
theorem LC_6 (K : Cx strL D cA h0 p l s m args meth c cL_law RL 7) {Q : State → Prop} {cells slots ax am ao b0 L : Nat} {xs : Nat → Int32} {x4 : Int32} {hp : hpT} {k b : Int32} {h2 : hpT} {g3 : Nat → Option va_E} (hc : cells + 6 ≤ 601024) (hs : slots + 125 ≤ 7293034) (hX : va_X b0 L xs s s.heap) (hbl : b0 < s.heap.size) (hbA : ¬ Af h0 b0) (i1 : vp_in (x4 + 1) L) (i2 : vp_in (x4 + 2) L) (i3 : vp_in (x4 + 3) L) (i4 : vp_in (x4 + 4) L) (hx7 : ∃ fs, hp.2 ax = some (.inr (7, fs))) (hx8 : ∃ fs, h2.2 am = some (.inr (8, fs))) (hx9 : ∃ fs, g3 am = some (.inr (8, fs))) (hw : wrap cs_L_lot (F_X7_lot ax (xs (x4 + 1).toNatClampNeg) (xs (x4 + 2).toNatClampNeg) (xs (x4 + 3).toNatClampNeg) (xs (x4 + 4).toNatClampNeg) hp) ao = some (.inl k, h2)) (hM : ∀ z, F_X8_lot am (xs (x4 + 1).toNatClampNeg) (xs (x4 + 2).toNatClampNeg) (xs (x4 + 3).toNatClampNeg) (xs (x4 + 4).toNatClampNeg) (z, h2.2) = some (.inl b, (z, g3))) (hT : ∀ z, F_X8_thrown am (z, g3) = some (.inl k, (z, g3))) (hO : k = 0 → ∃ n f, g3 ao = some (.inl (1, n, .inr (.inl f))) ∧ 0 < n ∧ f 0 = b.toInt64) (kk : ∀ z, G D cA h0 p l e room_1 s m args below meth c 7 Q (cells + 6) (slots + 125) (z, g3) 1301 [some (va_rf (some b0)), some (va_rf (some ax)), some (va_rf (some am)), some (va_rf (some ao)), some (.int x4), none, none] []) : G D cA h0 p l e room_1 s m args below meth c 7 Q cells slots hp 604 [some (va_rf (some b0)), some (va_rf (some ax)), some (va_rf (some am)), some (va_rf (some ao)), some (.int x4), none, none] [] := by
  obtain ⟨fs7, hx7⟩ := hx7
  obtain ⟨fs8, hx8⟩ := hx8
  obtain ⟨fs9, hx9⟩ := hx9
  refine r_aload_n (pc := 604) K dL_law_604 rfl ?_
  refine r_aload_n (pc := 605) K dL_law_605 rfl ?_
  refine r_iload (pc := 606) K dL_law_606 rfl ?_
  refine r_iconst (pc := 608) (v := 1) K dL_law_608 (by decide) ?_
  refine r_iadd (pc := 609) K dL_law_609 ?_
  refine r_sld (pc := 610) K hX hbl hbA i1 dL_law_610 ?_
  refine r_aload_n (pc := 611) K dL_law_611 rfl ?_
  refine r_iload (pc := 612) K dL_law_612 rfl ?_
  refine r_iconst (pc := 614) (v := 2) K dL_law_614 (by decide) ?_
  refine r_iadd (pc := 615) K dL_law_615 ?_
  refine r_sld (pc := 616) K hX hbl hbA i2 dL_law_616 ?_
  refine r_aload_n (pc := 617) K dL_law_617 rfl ?_
  refine r_iload (pc := 618) K dL_law_618 rfl ?_
  refine r_iconst (pc := 620) (v := 3) K dL_law_620 (by decide) ?_
  refine r_iadd (pc := 621) K dL_law_621 ?_
  refine r_sld (pc := 622) K hX hbl hbA i3 dL_law_622 ?_
  refine r_aload_n (pc := 623) K dL_law_623 rfl ?_
  refine r_iload (pc := 624) K dL_law_624 rfl ?_
  refine r_iconst (pc := 626) (v := 4) K dL_law_626 (by decide) ?_
  refine r_iadd (pc := 627) K dL_law_627 ?_
  refine r_sld (pc := 628) K hX hbl hbA i4 dL_law_628 ?_
  refine r_aload_n (pc := 629) K dL_law_629 rfl ?_
  refine w_int (pc := 630) (st := []) (As := [va_rf (some ax), .int (xs (x4 + 1).toNatClampNeg), .int (xs (x4 + 2).toNatClampNeg), .int (xs (x4 + 3).toNatClampNeg), .int (xs (x4 + 4).toNatClampNeg), va_rf (some ao)]) K (M_L_lot K.2.2.2.2.2.2.1 _ _ _ _ _ _ _ _ ⟨fs7, hx7⟩ hw) dL_law_630 cw_L_lot cs_w_L_lot lw_RL_97 rfl rfl (by decide) rfl rfl (Nat.le_of_ble_eq_true rfl) (by show _ ≤ 601024; omega) (by show _ ≤ 7293034; omega) (fun z => ?_)
  refine r_istore (pc := 633) (lv' := [some (va_rf (some b0)), some (va_rf (some ax)), some (va_rf (some am)), some (va_rf (some ao)), some (.int x4), some (.int k), none]) K dL_law_633 (by decide) rfl ?_
  refine r_aload_n (pc := 635) K dL_law_635 rfl ?_
  refine r_aload_n (pc := 636) K dL_law_636 rfl ?_
  refine r_iload (pc := 637) K dL_law_637 rfl ?_
  refine r_iconst (pc := 639) (v := 1) K dL_law_639 (by decide) ?_
  refine r_iadd (pc := 640) K dL_law_640 ?_
  refine r_sld (pc := 641) K hX hbl hbA i1 dL_law_641 ?_
  refine r_aload_n (pc := 642) K dL_law_642 rfl ?_
  refine r_iload (pc := 643) K dL_law_643 rfl ?_
  refine r_iconst (pc := 645) (v := 2) K dL_law_645 (by decide) ?_
  refine r_iadd (pc := 646) K dL_law_646 ?_
  refine r_sld (pc := 647) K hX hbl hbA i2 dL_law_647 ?_
  refine r_aload_n (pc := 648) K dL_law_648 rfl ?_
  refine r_iload (pc := 649) K dL_law_649 rfl ?_
  refine r_iconst (pc := 651) (v := 3) K dL_law_651 (by decide) ?_
  refine r_iadd (pc := 652) K dL_law_652 ?_
  refine r_sld (pc := 653) K hX hbl hbA i3 dL_law_653 ?_
  refine r_aload_n (pc := 654) K dL_law_654 rfl ?_
  refine r_iload (pc := 655) K dL_law_655 rfl ?_
  refine r_iconst (pc := 657) (v := 4) K dL_law_657 (by decide) ?_
  refine r_iadd (pc := 658) K dL_law_658 ?_
  refine r_sld (pc := 659) K hX hbl hbA i4 dL_law_659 ?_
  refine m_int (pc := 660) (st := []) (As := [.int (xs (x4 + 1).toNatClampNeg), .int (xs (x4 + 2).toNatClampNeg), .int (xs (x4 + 3).toNatClampNeg), .int (xs (x4 + 4).toNatClampNeg)]) (b := am) (ci := 8) (q0 := (RX8, TX8, 29)) K (M_X8_lot K.2.2.2.2.2.2.1 _ _ _ _ _ _ _ (hM z)) dL_law_660 ce_X8_lot cv_X8_lot lk_RL_99 rfl rfl hx8 rfl rfl (by decide) rfl rfl (Nat.le_of_ble_eq_true rfl) (by show _ ≤ 601024; omega) (by show _ ≤ 7293034; omega) ?_
  refine r_istore (pc := 663) (lv' := [some (va_rf (some b0)), some (va_rf (some ax)), some (va_rf (some am)), some (va_rf (some ao)), some (.int x4), some (.int k), some (.int b)]) K dL_law_663 (by decide) rfl ?_
  refine r_aload_n (pc := 665) K dL_law_665 rfl ?_
  refine m_int (pc := 666) (st := []) (As := []) (b := am) (ci := 8) (q0 := (RX8, TX8, 29)) K (M_X8_thrown K.2.2.2.2.2.2.1 _ _ _ (hT z)) dL_law_666 ce_X8_thrown cv_X8_thrown lk_RL_75 rfl rfl hx9 rfl rfl (by decide) rfl rfl (Nat.le_of_ble_eq_true rfl) (by show _ ≤ 601024; omega) (by show _ ≤ 7293034; omega) ?_
  refine r_iload (pc := 669) K dL_law_669 rfl ?_
  refine q_icmp_eq (pc := 671) (tgt := 676) K dL_law_671 (by decide) (fun _ => ?_) (fun q => absurd rfl q)
  refine r_iload (pc := 676) K dL_law_676 rfl ?_
  refine q_if_ne (pc := 678) (tgt := 693) K dL_law_678 (by decide) (fun _ => ?_) (fun q => ?_)
  · refine r_goto (pc := 693) (tgt := 1301) K dL_law_693 (by decide) ?_
    exact r_widen (by omega) (by omega) (r_weak (lv2 := [some (va_rf (some b0)), some (va_rf (some ax)), some (va_rf (some am)), some (va_rf (some ao)), some (.int x4), none, none]) ⟨rfl, rfl, rfl, rfl, rfl, trivial⟩ (kk z))
  · obtain ⟨n0, f0, g1, g2, g5⟩ := hO q
    refine r_aload_n (pc := 681) K dL_law_681 rfl ?_
    refine r_iconst (pc := 682) (v := 0) K dL_law_682 (by decide) ?_
    have hl9 := ald_out (z := z) g1 g2 g5
    refine r_lald (pc := 683) K dL_law_683 hl9 (fun v9 h9 => ?_)
    have e9 : v9 = b.toInt64 := by cases h9; rfl
    subst e9
    refine r_iload (pc := 684) K dL_law_684 rfl ?_
    refine r_i2l (pc := 686) K dL_law_686 ?_
    refine r_lcmp (pc := 687) K dL_law_687 ?_
    refine q_if_eq (pc := 688) (tgt := 693) K dL_law_688 (by decide) (fun _ => ?_) (fun q => absurd (lg_cmp_self _) q)
    refine r_goto (pc := 693) (tgt := 1301) K dL_law_693 (by decide) ?_
    exact r_widen (by omega) (by omega) (r_weak (lv2 := [some (va_rf (some b0)), some (va_rf (some ax)), some (va_rf (some am)), some (va_rf (some ao)), some (.int x4), none, none]) ⟨rfl, rfl, rfl, rfl, rfl, trivial⟩ (kk z))
set_option maxRecDepth 100000 in
set_option maxHeartbeats 4000000 in
theorem LC_7 (K : Cx strL D cA h0 p l s m args meth c cL_law RL 7) {Q : State → Prop} {cells slots ax am ao b0 L : Nat} {xs : Nat → Int32} {x4 : Int32} {hp : hpT} {k b : Int32} {h2 : hpT} {g3 : Nat → Option va_E} (hc : cells + 6 ≤ 601024) (hs : slots + 125 ≤ 7293034) (hX : va_X b0 L xs s s.heap) (hbl : b0 < s.heap.size) (hbA : ¬ Af h0 b0) (i1 : vp_in (x4 + 1) L) (i2 : vp_in (x4 + 2) L) (hx7 : ∃ fs, hp.2 ax = some (.inr (7, fs))) (hx8 : ∃ fs, h2.2 am = some (.inr (8, fs))) (hx9 : ∃ fs, g3 am = some (.inr (8, fs))) (hw : wrap cs_L_lotOf (F_X7_lotOf ax (xs (x4 + 1).toNatClampNeg) (xs (x4 + 2).toNatClampNeg) hp) ao = some (.inl k, h2)) (hM : ∀ z, F_X8_lotOf am (xs (x4 + 1).toNatClampNeg) (xs (x4 + 2).toNatClampNeg) (z, h2.2) = some (.inl b, (z, g3))) (hT : ∀ z, F_X8_thrown am (z, g3) = some (.inl k, (z, g3))) (hO : k = 0 → ∃ n f, g3 ao = some (.inl (1, n, .inr (.inl f))) ∧ 0 < n ∧ f 0 = b.toInt64) (kk : ∀ z, G D cA h0 p l e room_1 s m args below meth c 7 Q (cells + 6) (slots + 125) (z, g3) 1301 [some (va_rf (some b0)), some (va_rf (some ax)), some (va_rf (some am)), some (va_rf (some ao)), some (.int x4), none, none] []) : G D cA h0 p l e room_1 s m args below meth c 7 Q cells slots hp 696 [some (va_rf (some b0)), some (va_rf (some ax)), some (va_rf (some am)), some (va_rf (some ao)), some (.int x4), none, none] [] := by
  obtain ⟨fs7, hx7⟩ := hx7
  obtain ⟨fs8, hx8⟩ := hx8
  obtain ⟨fs9, hx9⟩ := hx9
  refine r_aload_n (pc := 696) K dL_law_696 rfl ?_
  refine r_aload_n (pc := 697) K dL_law_697 rfl ?_
  refine r_iload (pc := 698) K dL_law_698 rfl ?_
  refine r_iconst (pc := 700) (v := 1) K dL_law_700 (by decide) ?_
  refine r_iadd (pc := 701) K dL_law_701 ?_
  refine r_sld (pc := 702) K hX hbl hbA i1 dL_law_702 ?_
  refine r_aload_n (pc := 703) K dL_law_703 rfl ?_
  refine r_iload (pc := 704) K dL_law_704 rfl ?_
  refine r_iconst (pc := 706) (v := 2) K dL_law_706 (by decide) ?_
  refine r_iadd (pc := 707) K dL_law_707 ?_
  refine r_sld (pc := 708) K hX hbl hbA i2 dL_law_708 ?_
  refine r_aload_n (pc := 709) K dL_law_709 rfl ?_
  refine w_int (pc := 710) (st := []) (As := [va_rf (some ax), .int (xs (x4 + 1).toNatClampNeg), .int (xs (x4 + 2).toNatClampNeg), va_rf (some ao)]) K (M_L_lotOf K.2.2.2.2.2.2.1 _ _ _ _ _ _ ⟨fs7, hx7⟩ hw) dL_law_710 cw_L_lotOf cs_w_L_lotOf lw_RL_100 rfl rfl (by decide) rfl rfl (Nat.le_of_ble_eq_true rfl) (by show _ ≤ 601024; omega) (by show _ ≤ 7293034; omega) (fun z => ?_)
  refine r_istore (pc := 713) (lv' := [some (va_rf (some b0)), some (va_rf (some ax)), some (va_rf (some am)), some (va_rf (some ao)), some (.int x4), some (.int k), none]) K dL_law_713 (by decide) rfl ?_
  refine r_aload_n (pc := 715) K dL_law_715 rfl ?_
  refine r_aload_n (pc := 716) K dL_law_716 rfl ?_
  refine r_iload (pc := 717) K dL_law_717 rfl ?_
  refine r_iconst (pc := 719) (v := 1) K dL_law_719 (by decide) ?_
  refine r_iadd (pc := 720) K dL_law_720 ?_
  refine r_sld (pc := 721) K hX hbl hbA i1 dL_law_721 ?_
  refine r_aload_n (pc := 722) K dL_law_722 rfl ?_
  refine r_iload (pc := 723) K dL_law_723 rfl ?_
  refine r_iconst (pc := 725) (v := 2) K dL_law_725 (by decide) ?_
  refine r_iadd (pc := 726) K dL_law_726 ?_
  refine r_sld (pc := 727) K hX hbl hbA i2 dL_law_727 ?_
  refine m_int (pc := 728) (st := []) (As := [.int (xs (x4 + 1).toNatClampNeg), .int (xs (x4 + 2).toNatClampNeg)]) (b := am) (ci := 8) (q0 := (RX8, TX8, 29)) K (M_X8_lotOf K.2.2.2.2.2.2.1 _ _ _ _ _ (hM z)) dL_law_728 ce_X8_lotOf cv_X8_lotOf lk_RL_102 rfl rfl hx8 rfl rfl (by decide) rfl rfl (Nat.le_of_ble_eq_true rfl) (by show _ ≤ 601024; omega) (by show _ ≤ 7293034; omega) ?_
  refine r_istore (pc := 731) (lv' := [some (va_rf (some b0)), some (va_rf (some ax)), some (va_rf (some am)), some (va_rf (some ao)), some (.int x4), some (.int k), some (.int b)]) K dL_law_731 (by decide) rfl ?_
  refine r_aload_n (pc := 733) K dL_law_733 rfl ?_
  refine m_int (pc := 734) (st := []) (As := []) (b := am) (ci := 8) (q0 := (RX8, TX8, 29)) K (M_X8_thrown K.2.2.2.2.2.2.1 _ _ _ (hT z)) dL_law_734 ce_X8_thrown cv_X8_thrown lk_RL_75 rfl rfl hx9 rfl rfl (by decide) rfl rfl (Nat.le_of_ble_eq_true rfl) (by show _ ≤ 601024; omega) (by show _ ≤ 7293034; omega) ?_
  refine r_iload (pc := 737) K dL_law_737 rfl ?_
  refine q_icmp_eq (pc := 739) (tgt := 744) K dL_law_739 (by decide) (fun _ => ?_) (fun q => absurd rfl q)
  refine r_iload (pc := 744) K dL_law_744 rfl ?_
  refine q_if_ne (pc := 746) (tgt := 761) K dL_law_746 (by decide) (fun _ => ?_) (fun q => ?_)
  · refine r_goto (pc := 761) (tgt := 1301) K dL_law_761 (by decide) ?_
    exact r_widen (by omega) (by omega) (r_weak (lv2 := [some (va_rf (some b0)), some (va_rf (some ax)), some (va_rf (some am)), some (va_rf (some ao)), some (.int x4), none, none]) ⟨rfl, rfl, rfl, rfl, rfl, trivial⟩ (kk z))
  · obtain ⟨n0, f0, g1, g2, g5⟩ := hO q
    refine r_aload_n (pc := 749) K dL_law_749 rfl ?_
    refine r_iconst (pc := 750) (v := 0) K dL_law_750 (by decide) ?_
    have hl9 := ald_out (z := z) g1 g2 g5
    refine r_lald (pc := 751) K dL_law_751 hl9 (fun v9 h9 => ?_)
    have e9 : v9 = b.toInt64 := by cases h9; rfl
    subst e9
    refine r_iload (pc := 752) K dL_law_752 rfl ?_
    refine r_i2l (pc := 754) K dL_law_754 ?_
    refine r_lcmp (pc := 755) K dL_law_755 ?_
    refine q_if_eq (pc := 756) (tgt := 761) K dL_law_756 (by decide) (fun _ => ?_) (fun q => absurd (lg_cmp_self _) q)
    refine r_goto (pc := 761) (tgt := 1301) K dL_law_761 (by decide) ?_
    exact r_widen (by omega) (by omega) (r_weak (lv2 := [some (va_rf (some b0)), some (va_rf (some ax)), some (va_rf (some am)), some (va_rf (some ao)), some (.int x4), none, none]) ⟨rfl, rfl, rfl, rfl, rfl, trivial⟩ (kk z))
set_option maxRecDepth 100000 in
set_option maxHeartbeats 4000000 in
theorem LC_8 (K : Cx strL D cA h0 p l s m args meth c cL_law RL 7) {Q : State → Prop} {cells slots ax am ao b0 L : Nat} {xs : Nat → Int32} {x4 : Int32} {hp : hpT} {k b : Int32} {h2 : hpT} {g3 : Nat → Option va_E} (hc : cells + 6 ≤ 601024) (hs : slots + 125 ≤ 7293034) (hX : va_X b0 L xs s s.heap) (hbl : b0 < s.heap.size) (hbA : ¬ Af h0 b0) (i1 : vp_in (x4 + 1) L) (i2 : vp_in (x4 + 2) L) (i3 : vp_in (x4 + 3) L) (hx7 : ∃ fs, hp.2 ax = some (.inr (7, fs))) (hx8 : ∃ fs, h2.2 am = some (.inr (8, fs))) (hx9 : ∃ fs, g3 am = some (.inr (8, fs))) (hw : wrap cs_L_wall (F_X7_wall ax (xs (x4 + 1).toNatClampNeg) (xs (x4 + 2).toNatClampNeg) (xs (x4 + 3).toNatClampNeg) hp) ao = some (.inl k, h2)) (hM : ∀ z, F_X8_wall am (xs (x4 + 1).toNatClampNeg) (xs (x4 + 2).toNatClampNeg) (xs (x4 + 3).toNatClampNeg) (z, h2.2) = some (.inl b, (z, g3))) (hT : ∀ z, F_X8_thrown am (z, g3) = some (.inl k, (z, g3))) (hO : k = 0 → ∃ n f, g3 ao = some (.inl (1, n, .inr (.inl f))) ∧ 0 < n ∧ f 0 = b.toInt64) (kk : ∀ z, G D cA h0 p l e room_1 s m args below meth c 7 Q (cells + 6) (slots + 125) (z, g3) 1301 [some (va_rf (some b0)), some (va_rf (some ax)), some (va_rf (some am)), some (va_rf (some ao)), some (.int x4), none, none] []) : G D cA h0 p l e room_1 s m args below meth c 7 Q cells slots hp 764 [some (va_rf (some b0)), some (va_rf (some ax)), some (va_rf (some am)), some (va_rf (some ao)), some (.int x4), none, none] [] := by
  obtain ⟨fs7, hx7⟩ := hx7
  obtain ⟨fs8, hx8⟩ := hx8
  obtain ⟨fs9, hx9⟩ := hx9
  refine r_aload_n (pc := 764) K dL_law_764 rfl ?_
  refine r_aload_n (pc := 765) K dL_law_765 rfl ?_
  refine r_iload (pc := 766) K dL_law_766 rfl ?_
  refine r_iconst (pc := 768) (v := 1) K dL_law_768 (by decide) ?_
  refine r_iadd (pc := 769) K dL_law_769 ?_
  refine r_sld (pc := 770) K hX hbl hbA i1 dL_law_770 ?_
  refine r_aload_n (pc := 771) K dL_law_771 rfl ?_
  refine r_iload (pc := 772) K dL_law_772 rfl ?_
  refine r_iconst (pc := 774) (v := 2) K dL_law_774 (by decide) ?_
  refine r_iadd (pc := 775) K dL_law_775 ?_
  refine r_sld (pc := 776) K hX hbl hbA i2 dL_law_776 ?_
  refine r_aload_n (pc := 777) K dL_law_777 rfl ?_
  refine r_iload (pc := 778) K dL_law_778 rfl ?_
  refine r_iconst (pc := 780) (v := 3) K dL_law_780 (by decide) ?_
  refine r_iadd (pc := 781) K dL_law_781 ?_
  refine r_sld (pc := 782) K hX hbl hbA i3 dL_law_782 ?_
  refine r_aload_n (pc := 783) K dL_law_783 rfl ?_
  refine w_int (pc := 784) (st := []) (As := [va_rf (some ax), .int (xs (x4 + 1).toNatClampNeg), .int (xs (x4 + 2).toNatClampNeg), .int (xs (x4 + 3).toNatClampNeg), va_rf (some ao)]) K (M_L_wall K.2.2.2.2.2.2.1 _ _ _ _ _ _ _ ⟨fs7, hx7⟩ hw) dL_law_784 cw_L_wall cs_w_L_wall lw_RL_103 rfl rfl (by decide) rfl rfl (Nat.le_of_ble_eq_true rfl) (by show _ ≤ 601024; omega) (by show _ ≤ 7293034; omega) (fun z => ?_)
  refine r_istore (pc := 787) (lv' := [some (va_rf (some b0)), some (va_rf (some ax)), some (va_rf (some am)), some (va_rf (some ao)), some (.int x4), some (.int k), none]) K dL_law_787 (by decide) rfl ?_
  refine r_aload_n (pc := 789) K dL_law_789 rfl ?_
  refine r_aload_n (pc := 790) K dL_law_790 rfl ?_
  refine r_iload (pc := 791) K dL_law_791 rfl ?_
  refine r_iconst (pc := 793) (v := 1) K dL_law_793 (by decide) ?_
  refine r_iadd (pc := 794) K dL_law_794 ?_
  refine r_sld (pc := 795) K hX hbl hbA i1 dL_law_795 ?_
  refine r_aload_n (pc := 796) K dL_law_796 rfl ?_
  refine r_iload (pc := 797) K dL_law_797 rfl ?_
  refine r_iconst (pc := 799) (v := 2) K dL_law_799 (by decide) ?_
  refine r_iadd (pc := 800) K dL_law_800 ?_
  refine r_sld (pc := 801) K hX hbl hbA i2 dL_law_801 ?_
  refine r_aload_n (pc := 802) K dL_law_802 rfl ?_
  refine r_iload (pc := 803) K dL_law_803 rfl ?_
  refine r_iconst (pc := 805) (v := 3) K dL_law_805 (by decide) ?_
  refine r_iadd (pc := 806) K dL_law_806 ?_
  refine r_sld (pc := 807) K hX hbl hbA i3 dL_law_807 ?_
  refine m_int (pc := 808) (st := []) (As := [.int (xs (x4 + 1).toNatClampNeg), .int (xs (x4 + 2).toNatClampNeg), .int (xs (x4 + 3).toNatClampNeg)]) (b := am) (ci := 8) (q0 := (RX8, TX8, 29)) K (M_X8_wall K.2.2.2.2.2.2.1 _ _ _ _ _ _ (hM z)) dL_law_808 ce_X8_wall cv_X8_wall lk_RL_105 rfl rfl hx8 rfl rfl (by decide) rfl rfl (Nat.le_of_ble_eq_true rfl) (by show _ ≤ 601024; omega) (by show _ ≤ 7293034; omega) ?_
  refine r_istore (pc := 811) (lv' := [some (va_rf (some b0)), some (va_rf (some ax)), some (va_rf (some am)), some (va_rf (some ao)), some (.int x4), some (.int k), some (.int b)]) K dL_law_811 (by decide) rfl ?_
  refine r_aload_n (pc := 813) K dL_law_813 rfl ?_
  refine m_int (pc := 814) (st := []) (As := []) (b := am) (ci := 8) (q0 := (RX8, TX8, 29)) K (M_X8_thrown K.2.2.2.2.2.2.1 _ _ _ (hT z)) dL_law_814 ce_X8_thrown cv_X8_thrown lk_RL_75 rfl rfl hx9 rfl rfl (by decide) rfl rfl (Nat.le_of_ble_eq_true rfl) (by show _ ≤ 601024; omega) (by show _ ≤ 7293034; omega) ?_
  refine r_iload (pc := 817) K dL_law_817 rfl ?_
  refine q_icmp_eq (pc := 819) (tgt := 824) K dL_law_819 (by decide) (fun _ => ?_) (fun q => absurd rfl q)
  refine r_iload (pc := 824) K dL_law_824 rfl ?_
  refine q_if_ne (pc := 826) (tgt := 841) K dL_law_826 (by decide) (fun _ => ?_) (fun q => ?_)
  · refine r_goto (pc := 841) (tgt := 1301) K dL_law_841 (by decide) ?_
    exact r_widen (by omega) (by omega) (r_weak (lv2 := [some (va_rf (some b0)), some (va_rf (some ax)), some (va_rf (some am)), some (va_rf (some ao)), some (.int x4), none, none]) ⟨rfl, rfl, rfl, rfl, rfl, trivial⟩ (kk z))
  · obtain ⟨n0, f0, g1, g2, g5⟩ := hO q
    refine r_aload_n (pc := 829) K dL_law_829 rfl ?_
    refine r_iconst (pc := 830) (v := 0) K dL_law_830 (by decide) ?_
    have hl9 := ald_out (z := z) g1 g2 g5
    refine r_lald (pc := 831) K dL_law_831 hl9 (fun v9 h9 => ?_)
    have e9 : v9 = b.toInt64 := by cases h9; rfl
    subst e9
    refine r_iload (pc := 832) K dL_law_832 rfl ?_
    refine r_i2l (pc := 834) K dL_law_834 ?_
    refine r_lcmp (pc := 835) K dL_law_835 ?_
    refine q_if_eq (pc := 836) (tgt := 841) K dL_law_836 (by decide) (fun _ => ?_) (fun q => absurd (lg_cmp_self _) q)
    refine r_goto (pc := 841) (tgt := 1301) K dL_law_841 (by decide) ?_
    exact r_widen (by omega) (by omega) (r_weak (lv2 := [some (va_rf (some b0)), some (va_rf (some ax)), some (va_rf (some am)), some (va_rf (some ao)), some (.int x4), none, none]) ⟨rfl, rfl, rfl, rfl, rfl, trivial⟩ (kk z))
set_option maxRecDepth 100000 in
set_option maxHeartbeats 4000000 in
theorem LC_9 (K : Cx strL D cA h0 p l s m args meth c cL_law RL 7) {Q : State → Prop} {cells slots ax am ao b0 L : Nat} {xs : Nat → Int32} {x4 : Int32} {hp : hpT} {k b : Int32} {h2 : hpT} {g3 : Nat → Option va_E} (hc : cells + 6 ≤ 601024) (hs : slots + 125 ≤ 7293034) (hX : va_X b0 L xs s s.heap) (hbl : b0 < s.heap.size) (hbA : ¬ Af h0 b0) (i1 : vp_in (x4 + 1) L) (i2 : vp_in (x4 + 2) L) (hx7 : ∃ fs, hp.2 ax = some (.inr (7, fs))) (hx8 : ∃ fs, h2.2 am = some (.inr (8, fs))) (hx9 : ∃ fs, g3 am = some (.inr (8, fs))) (hw : wrap cs_L_hang (F_X7_hang ax (xs (x4 + 1).toNatClampNeg) (xs (x4 + 2).toNatClampNeg) hp) ao = some (.inl k, h2)) (hM : ∀ z, F_X8_hang am (xs (x4 + 1).toNatClampNeg) (xs (x4 + 2).toNatClampNeg) (z, h2.2) = some (.inl b, (z, g3))) (hT : ∀ z, F_X8_thrown am (z, g3) = some (.inl k, (z, g3))) (hO : k = 0 → ∃ n f, g3 ao = some (.inl (1, n, .inr (.inl f))) ∧ 0 < n ∧ f 0 = b.toInt64) (kk : ∀ z, G D cA h0 p l e room_1 s m args below meth c 7 Q (cells + 6) (slots + 125) (z, g3) 1301 [some (va_rf (some b0)), some (va_rf (some ax)), some (va_rf (some am)), some (va_rf (some ao)), some (.int x4), none, none] []) : G D cA h0 p l e room_1 s m args below meth c 7 Q cells slots hp 844 [some (va_rf (some b0)), some (va_rf (some ax)), some (va_rf (some am)), some (va_rf (some ao)), some (.int x4), none, none] [] := by
  obtain ⟨fs7, hx7⟩ := hx7
  obtain ⟨fs8, hx8⟩ := hx8
  obtain ⟨fs9, hx9⟩ := hx9
  refine r_aload_n (pc := 844) K dL_law_844 rfl ?_
  refine r_aload_n (pc := 845) K dL_law_845 rfl ?_
  refine r_iload (pc := 846) K dL_law_846 rfl ?_
  refine r_iconst (pc := 848) (v := 1) K dL_law_848 (by decide) ?_
  refine r_iadd (pc := 849) K dL_law_849 ?_
  refine r_sld (pc := 850) K hX hbl hbA i1 dL_law_850 ?_
  refine r_aload_n (pc := 851) K dL_law_851 rfl ?_
  refine r_iload (pc := 852) K dL_law_852 rfl ?_
  refine r_iconst (pc := 854) (v := 2) K dL_law_854 (by decide) ?_
  refine r_iadd (pc := 855) K dL_law_855 ?_
  refine r_sld (pc := 856) K hX hbl hbA i2 dL_law_856 ?_
  refine r_aload_n (pc := 857) K dL_law_857 rfl ?_
  refine w_int (pc := 858) (st := []) (As := [va_rf (some ax), .int (xs (x4 + 1).toNatClampNeg), .int (xs (x4 + 2).toNatClampNeg), va_rf (some ao)]) K (M_L_hang K.2.2.2.2.2.2.1 _ _ _ _ _ _ ⟨fs7, hx7⟩ hw) dL_law_858 cw_L_hang cs_w_L_hang lw_RL_106 rfl rfl (by decide) rfl rfl (Nat.le_of_ble_eq_true rfl) (by show _ ≤ 601024; omega) (by show _ ≤ 7293034; omega) (fun z => ?_)
  refine r_istore (pc := 861) (lv' := [some (va_rf (some b0)), some (va_rf (some ax)), some (va_rf (some am)), some (va_rf (some ao)), some (.int x4), some (.int k), none]) K dL_law_861 (by decide) rfl ?_
  refine r_aload_n (pc := 863) K dL_law_863 rfl ?_
  refine r_aload_n (pc := 864) K dL_law_864 rfl ?_
  refine r_iload (pc := 865) K dL_law_865 rfl ?_
  refine r_iconst (pc := 867) (v := 1) K dL_law_867 (by decide) ?_
  refine r_iadd (pc := 868) K dL_law_868 ?_
  refine r_sld (pc := 869) K hX hbl hbA i1 dL_law_869 ?_
  refine r_aload_n (pc := 870) K dL_law_870 rfl ?_
  refine r_iload (pc := 871) K dL_law_871 rfl ?_
  refine r_iconst (pc := 873) (v := 2) K dL_law_873 (by decide) ?_
  refine r_iadd (pc := 874) K dL_law_874 ?_
  refine r_sld (pc := 875) K hX hbl hbA i2 dL_law_875 ?_
  refine m_int (pc := 876) (st := []) (As := [.int (xs (x4 + 1).toNatClampNeg), .int (xs (x4 + 2).toNatClampNeg)]) (b := am) (ci := 8) (q0 := (RX8, TX8, 29)) K (M_X8_hang K.2.2.2.2.2.2.1 _ _ _ _ _ (hM z)) dL_law_876 ce_X8_hang cv_X8_hang lk_RL_108 rfl rfl hx8 rfl rfl (by decide) rfl rfl (Nat.le_of_ble_eq_true rfl) (by show _ ≤ 601024; omega) (by show _ ≤ 7293034; omega) ?_
  refine r_istore (pc := 879) (lv' := [some (va_rf (some b0)), some (va_rf (some ax)), some (va_rf (some am)), some (va_rf (some ao)), some (.int x4), some (.int k), some (.int b)]) K dL_law_879 (by decide) rfl ?_
  refine r_aload_n (pc := 881) K dL_law_881 rfl ?_
  refine m_int (pc := 882) (st := []) (As := []) (b := am) (ci := 8) (q0 := (RX8, TX8, 29)) K (M_X8_thrown K.2.2.2.2.2.2.1 _ _ _ (hT z)) dL_law_882 ce_X8_thrown cv_X8_thrown lk_RL_75 rfl rfl hx9 rfl rfl (by decide) rfl rfl (Nat.le_of_ble_eq_true rfl) (by show _ ≤ 601024; omega) (by show _ ≤ 7293034; omega) ?_
  refine r_iload (pc := 885) K dL_law_885 rfl ?_
  refine q_icmp_eq (pc := 887) (tgt := 892) K dL_law_887 (by decide) (fun _ => ?_) (fun q => absurd rfl q)
  refine r_iload (pc := 892) K dL_law_892 rfl ?_
  refine q_if_ne (pc := 894) (tgt := 909) K dL_law_894 (by decide) (fun _ => ?_) (fun q => ?_)
  · refine r_goto (pc := 909) (tgt := 1301) K dL_law_909 (by decide) ?_
    exact r_widen (by omega) (by omega) (r_weak (lv2 := [some (va_rf (some b0)), some (va_rf (some ax)), some (va_rf (some am)), some (va_rf (some ao)), some (.int x4), none, none]) ⟨rfl, rfl, rfl, rfl, rfl, trivial⟩ (kk z))
  · obtain ⟨n0, f0, g1, g2, g5⟩ := hO q
    refine r_aload_n (pc := 897) K dL_law_897 rfl ?_
    refine r_iconst (pc := 898) (v := 0) K dL_law_898 (by decide) ?_
    have hl9 := ald_out (z := z) g1 g2 g5
    refine r_lald (pc := 899) K dL_law_899 hl9 (fun v9 h9 => ?_)
    have e9 : v9 = b.toInt64 := by cases h9; rfl
    subst e9
    refine r_iload (pc := 900) K dL_law_900 rfl ?_
    refine r_i2l (pc := 902) K dL_law_902 ?_
    refine r_lcmp (pc := 903) K dL_law_903 ?_
    refine q_if_eq (pc := 904) (tgt := 909) K dL_law_904 (by decide) (fun _ => ?_) (fun q => absurd (lg_cmp_self _) q)
    refine r_goto (pc := 909) (tgt := 1301) K dL_law_909 (by decide) ?_
    exact r_widen (by omega) (by omega) (r_weak (lv2 := [some (va_rf (some b0)), some (va_rf (some ax)), some (va_rf (some am)), some (va_rf (some ao)), some (.int x4), none, none]) ⟨rfl, rfl, rfl, rfl, rfl, trivial⟩ (kk z))
set_option maxRecDepth 100000 in
set_option maxHeartbeats 4000000 in
theorem LC_10 (K : Cx strL D cA h0 p l s m args meth c cL_law RL 7) {Q : State → Prop} {cells slots ax am ao b0 L : Nat} {xs : Nat → Int32} {x4 : Int32} {hp : hpT} {k b : Int32} {h2 : hpT} {g3 : Nat → Option va_E} (hc : cells + 6 ≤ 601024) (hs : slots + 125 ≤ 7293034) (hX : va_X b0 L xs s s.heap) (hbl : b0 < s.heap.size) (hbA : ¬ Af h0 b0) (i1 : vp_in (x4 + 1) L) (i2 : vp_in (x4 + 2) L) (i3 : vp_in (x4 + 3) L) (hx7 : ∃ fs, hp.2 ax = some (.inr (7, fs))) (hx8 : ∃ fs, h2.2 am = some (.inr (8, fs))) (hx9 : ∃ fs, g3 am = some (.inr (8, fs))) (hw : wrap cs_L_lengthen (F_X7_lengthen ax (xs (x4 + 1).toNatClampNeg) (xs (x4 + 2).toNatClampNeg) (xs (x4 + 3).toNatClampNeg) hp) ao = some (.inl k, h2)) (hM : ∀ z, F_X8_lengthen am (xs (x4 + 1).toNatClampNeg) (xs (x4 + 2).toNatClampNeg) (xs (x4 + 3).toNatClampNeg) (z, h2.2) = some (.inl b, (z, g3))) (hT : ∀ z, F_X8_thrown am (z, g3) = some (.inl k, (z, g3))) (hO : k = 0 → ∃ n f, g3 ao = some (.inl (1, n, .inr (.inl f))) ∧ 0 < n ∧ f 0 = b.toInt64) (kk : ∀ z, G D cA h0 p l e room_1 s m args below meth c 7 Q (cells + 6) (slots + 125) (z, g3) 1301 [some (va_rf (some b0)), some (va_rf (some ax)), some (va_rf (some am)), some (va_rf (some ao)), some (.int x4), none, none] []) : G D cA h0 p l e room_1 s m args below meth c 7 Q cells slots hp 912 [some (va_rf (some b0)), some (va_rf (some ax)), some (va_rf (some am)), some (va_rf (some ao)), some (.int x4), none, none] [] := by
  obtain ⟨fs7, hx7⟩ := hx7
  obtain ⟨fs8, hx8⟩ := hx8
  obtain ⟨fs9, hx9⟩ := hx9
  refine r_aload_n (pc := 912) K dL_law_912 rfl ?_
  refine r_aload_n (pc := 913) K dL_law_913 rfl ?_
  refine r_iload (pc := 914) K dL_law_914 rfl ?_
  refine r_iconst (pc := 916) (v := 1) K dL_law_916 (by decide) ?_
  refine r_iadd (pc := 917) K dL_law_917 ?_
  refine r_sld (pc := 918) K hX hbl hbA i1 dL_law_918 ?_
  refine r_aload_n (pc := 919) K dL_law_919 rfl ?_
  refine r_iload (pc := 920) K dL_law_920 rfl ?_
  refine r_iconst (pc := 922) (v := 2) K dL_law_922 (by decide) ?_
  refine r_iadd (pc := 923) K dL_law_923 ?_
  refine r_sld (pc := 924) K hX hbl hbA i2 dL_law_924 ?_
  refine r_aload_n (pc := 925) K dL_law_925 rfl ?_
  refine r_iload (pc := 926) K dL_law_926 rfl ?_
  refine r_iconst (pc := 928) (v := 3) K dL_law_928 (by decide) ?_
  refine r_iadd (pc := 929) K dL_law_929 ?_
  refine r_sld (pc := 930) K hX hbl hbA i3 dL_law_930 ?_
  refine r_aload_n (pc := 931) K dL_law_931 rfl ?_
  refine w_int (pc := 932) (st := []) (As := [va_rf (some ax), .int (xs (x4 + 1).toNatClampNeg), .int (xs (x4 + 2).toNatClampNeg), .int (xs (x4 + 3).toNatClampNeg), va_rf (some ao)]) K (M_L_lengthen K.2.2.2.2.2.2.1 _ _ _ _ _ _ _ ⟨fs7, hx7⟩ hw) dL_law_932 cw_L_lengthen cs_w_L_lengthen lw_RL_109 rfl rfl (by decide) rfl rfl (Nat.le_of_ble_eq_true rfl) (by show _ ≤ 601024; omega) (by show _ ≤ 7293034; omega) (fun z => ?_)
  refine r_istore (pc := 935) (lv' := [some (va_rf (some b0)), some (va_rf (some ax)), some (va_rf (some am)), some (va_rf (some ao)), some (.int x4), some (.int k), none]) K dL_law_935 (by decide) rfl ?_
  refine r_aload_n (pc := 937) K dL_law_937 rfl ?_
  refine r_aload_n (pc := 938) K dL_law_938 rfl ?_
  refine r_iload (pc := 939) K dL_law_939 rfl ?_
  refine r_iconst (pc := 941) (v := 1) K dL_law_941 (by decide) ?_
  refine r_iadd (pc := 942) K dL_law_942 ?_
  refine r_sld (pc := 943) K hX hbl hbA i1 dL_law_943 ?_
  refine r_aload_n (pc := 944) K dL_law_944 rfl ?_
  refine r_iload (pc := 945) K dL_law_945 rfl ?_
  refine r_iconst (pc := 947) (v := 2) K dL_law_947 (by decide) ?_
  refine r_iadd (pc := 948) K dL_law_948 ?_
  refine r_sld (pc := 949) K hX hbl hbA i2 dL_law_949 ?_
  refine r_aload_n (pc := 950) K dL_law_950 rfl ?_
  refine r_iload (pc := 951) K dL_law_951 rfl ?_
  refine r_iconst (pc := 953) (v := 3) K dL_law_953 (by decide) ?_
  refine r_iadd (pc := 954) K dL_law_954 ?_
  refine r_sld (pc := 955) K hX hbl hbA i3 dL_law_955 ?_
  refine m_int (pc := 956) (st := []) (As := [.int (xs (x4 + 1).toNatClampNeg), .int (xs (x4 + 2).toNatClampNeg), .int (xs (x4 + 3).toNatClampNeg)]) (b := am) (ci := 8) (q0 := (RX8, TX8, 29)) K (M_X8_lengthen K.2.2.2.2.2.2.1 _ _ _ _ _ _ (hM z)) dL_law_956 ce_X8_lengthen cv_X8_lengthen lk_RL_111 rfl rfl hx8 rfl rfl (by decide) rfl rfl (Nat.le_of_ble_eq_true rfl) (by show _ ≤ 601024; omega) (by show _ ≤ 7293034; omega) ?_
  refine r_istore (pc := 959) (lv' := [some (va_rf (some b0)), some (va_rf (some ax)), some (va_rf (some am)), some (va_rf (some ao)), some (.int x4), some (.int k), some (.int b)]) K dL_law_959 (by decide) rfl ?_
  refine r_aload_n (pc := 961) K dL_law_961 rfl ?_
  refine m_int (pc := 962) (st := []) (As := []) (b := am) (ci := 8) (q0 := (RX8, TX8, 29)) K (M_X8_thrown K.2.2.2.2.2.2.1 _ _ _ (hT z)) dL_law_962 ce_X8_thrown cv_X8_thrown lk_RL_75 rfl rfl hx9 rfl rfl (by decide) rfl rfl (Nat.le_of_ble_eq_true rfl) (by show _ ≤ 601024; omega) (by show _ ≤ 7293034; omega) ?_
  refine r_iload (pc := 965) K dL_law_965 rfl ?_
  refine q_icmp_eq (pc := 967) (tgt := 972) K dL_law_967 (by decide) (fun _ => ?_) (fun q => absurd rfl q)
  refine r_iload (pc := 972) K dL_law_972 rfl ?_
  refine q_if_ne (pc := 974) (tgt := 989) K dL_law_974 (by decide) (fun _ => ?_) (fun q => ?_)
  · refine r_goto (pc := 989) (tgt := 1301) K dL_law_989 (by decide) ?_
    exact r_widen (by omega) (by omega) (r_weak (lv2 := [some (va_rf (some b0)), some (va_rf (some ax)), some (va_rf (some am)), some (va_rf (some ao)), some (.int x4), none, none]) ⟨rfl, rfl, rfl, rfl, rfl, trivial⟩ (kk z))
  · obtain ⟨n0, f0, g1, g2, g5⟩ := hO q
    refine r_aload_n (pc := 977) K dL_law_977 rfl ?_
    refine r_iconst (pc := 978) (v := 0) K dL_law_978 (by decide) ?_
    have hl9 := ald_out (z := z) g1 g2 g5
    refine r_lald (pc := 979) K dL_law_979 hl9 (fun v9 h9 => ?_)
    have e9 : v9 = b.toInt64 := by cases h9; rfl
    subst e9
    refine r_iload (pc := 980) K dL_law_980 rfl ?_
    refine r_i2l (pc := 982) K dL_law_982 ?_
    refine r_lcmp (pc := 983) K dL_law_983 ?_
    refine q_if_eq (pc := 984) (tgt := 989) K dL_law_984 (by decide) (fun _ => ?_) (fun q => absurd (lg_cmp_self _) q)
    refine r_goto (pc := 989) (tgt := 1301) K dL_law_989 (by decide) ?_
    exact r_widen (by omega) (by omega) (r_weak (lv2 := [some (va_rf (some b0)), some (va_rf (some ax)), some (va_rf (some am)), some (va_rf (some ao)), some (.int x4), none, none]) ⟨rfl, rfl, rfl, rfl, rfl, trivial⟩ (kk z))
set_option maxRecDepth 100000 in
set_option maxHeartbeats 4000000 in
theorem LC_11 (K : Cx strL D cA h0 p l s m args meth c cL_law RL 7) {Q : State → Prop} {cells slots ax am ao b0 L : Nat} {xs : Nat → Int32} {x4 : Int32} {hp : hpT} {k b : Int32} {h2 : hpT} {g3 : Nat → Option va_E} (hc : cells + 6 ≤ 601024) (hs : slots + 125 ≤ 7293034) (hX : va_X b0 L xs s s.heap) (hbl : b0 < s.heap.size) (hbA : ¬ Af h0 b0) (i1 : vp_in (x4 + 1) L) (hx7 : ∃ fs, hp.2 ax = some (.inr (7, fs))) (hx8 : ∃ fs, h2.2 am = some (.inr (8, fs))) (hx9 : ∃ fs, g3 am = some (.inr (8, fs))) (hw : wrap cs_L_strip (F_X7_strip ax (xs (x4 + 1).toNatClampNeg) hp) ao = some (.inl k, h2)) (hM : ∀ z, F_X8_strip am (xs (x4 + 1).toNatClampNeg) (z, h2.2) = some (.inl b, (z, g3))) (hT : ∀ z, F_X8_thrown am (z, g3) = some (.inl k, (z, g3))) (hO : k = 0 → ∃ n f, g3 ao = some (.inl (1, n, .inr (.inl f))) ∧ 0 < n ∧ f 0 = b.toInt64) (kk : ∀ z, G D cA h0 p l e room_1 s m args below meth c 7 Q (cells + 6) (slots + 125) (z, g3) 1301 [some (va_rf (some b0)), some (va_rf (some ax)), some (va_rf (some am)), some (va_rf (some ao)), some (.int x4), none, none] []) : G D cA h0 p l e room_1 s m args below meth c 7 Q cells slots hp 992 [some (va_rf (some b0)), some (va_rf (some ax)), some (va_rf (some am)), some (va_rf (some ao)), some (.int x4), none, none] [] := by
  obtain ⟨fs7, hx7⟩ := hx7
  obtain ⟨fs8, hx8⟩ := hx8
  obtain ⟨fs9, hx9⟩ := hx9
  refine r_aload_n (pc := 992) K dL_law_992 rfl ?_
  refine r_aload_n (pc := 993) K dL_law_993 rfl ?_
  refine r_iload (pc := 994) K dL_law_994 rfl ?_
  refine r_iconst (pc := 996) (v := 1) K dL_law_996 (by decide) ?_
  refine r_iadd (pc := 997) K dL_law_997 ?_
  refine r_sld (pc := 998) K hX hbl hbA i1 dL_law_998 ?_
  refine r_aload_n (pc := 999) K dL_law_999 rfl ?_
  refine w_int (pc := 1000) (st := []) (As := [va_rf (some ax), .int (xs (x4 + 1).toNatClampNeg), va_rf (some ao)]) K (M_L_strip K.2.2.2.2.2.2.1 _ _ _ _ _ ⟨fs7, hx7⟩ hw) dL_law_1000 cw_L_strip cs_w_L_strip lw_RL_112 rfl rfl (by decide) rfl rfl (Nat.le_of_ble_eq_true rfl) (by show _ ≤ 601024; omega) (by show _ ≤ 7293034; omega) (fun z => ?_)
  refine r_istore (pc := 1003) (lv' := [some (va_rf (some b0)), some (va_rf (some ax)), some (va_rf (some am)), some (va_rf (some ao)), some (.int x4), some (.int k), none]) K dL_law_1003 (by decide) rfl ?_
  refine r_aload_n (pc := 1005) K dL_law_1005 rfl ?_
  refine r_aload_n (pc := 1006) K dL_law_1006 rfl ?_
  refine r_iload (pc := 1007) K dL_law_1007 rfl ?_
  refine r_iconst (pc := 1009) (v := 1) K dL_law_1009 (by decide) ?_
  refine r_iadd (pc := 1010) K dL_law_1010 ?_
  refine r_sld (pc := 1011) K hX hbl hbA i1 dL_law_1011 ?_
  refine m_int (pc := 1012) (st := []) (As := [.int (xs (x4 + 1).toNatClampNeg)]) (b := am) (ci := 8) (q0 := (RX8, TX8, 29)) K (M_X8_strip K.2.2.2.2.2.2.1 _ _ _ _ (hM z)) dL_law_1012 ce_X8_strip cv_X8_strip lk_RL_115 rfl rfl hx8 rfl rfl (by decide) rfl rfl (Nat.le_of_ble_eq_true rfl) (by show _ ≤ 601024; omega) (by show _ ≤ 7293034; omega) ?_
  refine r_istore (pc := 1015) (lv' := [some (va_rf (some b0)), some (va_rf (some ax)), some (va_rf (some am)), some (va_rf (some ao)), some (.int x4), some (.int k), some (.int b)]) K dL_law_1015 (by decide) rfl ?_
  refine r_aload_n (pc := 1017) K dL_law_1017 rfl ?_
  refine m_int (pc := 1018) (st := []) (As := []) (b := am) (ci := 8) (q0 := (RX8, TX8, 29)) K (M_X8_thrown K.2.2.2.2.2.2.1 _ _ _ (hT z)) dL_law_1018 ce_X8_thrown cv_X8_thrown lk_RL_75 rfl rfl hx9 rfl rfl (by decide) rfl rfl (Nat.le_of_ble_eq_true rfl) (by show _ ≤ 601024; omega) (by show _ ≤ 7293034; omega) ?_
  refine r_iload (pc := 1021) K dL_law_1021 rfl ?_
  refine q_icmp_eq (pc := 1023) (tgt := 1028) K dL_law_1023 (by decide) (fun _ => ?_) (fun q => absurd rfl q)
  refine r_iload (pc := 1028) K dL_law_1028 rfl ?_
  refine q_if_ne (pc := 1030) (tgt := 1045) K dL_law_1030 (by decide) (fun _ => ?_) (fun q => ?_)
  · refine r_goto (pc := 1045) (tgt := 1301) K dL_law_1045 (by decide) ?_
    exact r_widen (by omega) (by omega) (r_weak (lv2 := [some (va_rf (some b0)), some (va_rf (some ax)), some (va_rf (some am)), some (va_rf (some ao)), some (.int x4), none, none]) ⟨rfl, rfl, rfl, rfl, rfl, trivial⟩ (kk z))
  · obtain ⟨n0, f0, g1, g2, g5⟩ := hO q
    refine r_aload_n (pc := 1033) K dL_law_1033 rfl ?_
    refine r_iconst (pc := 1034) (v := 0) K dL_law_1034 (by decide) ?_
    have hl9 := ald_out (z := z) g1 g2 g5
    refine r_lald (pc := 1035) K dL_law_1035 hl9 (fun v9 h9 => ?_)
    have e9 : v9 = b.toInt64 := by cases h9; rfl
    subst e9
    refine r_iload (pc := 1036) K dL_law_1036 rfl ?_
    refine r_i2l (pc := 1038) K dL_law_1038 ?_
    refine r_lcmp (pc := 1039) K dL_law_1039 ?_
    refine q_if_eq (pc := 1040) (tgt := 1045) K dL_law_1040 (by decide) (fun _ => ?_) (fun q => absurd (lg_cmp_self _) q)
    refine r_goto (pc := 1045) (tgt := 1301) K dL_law_1045 (by decide) ?_
    exact r_widen (by omega) (by omega) (r_weak (lv2 := [some (va_rf (some b0)), some (va_rf (some ax)), some (va_rf (some am)), some (va_rf (some ao)), some (.int x4), none, none]) ⟨rfl, rfl, rfl, rfl, rfl, trivial⟩ (kk z))
set_option maxRecDepth 100000 in
set_option maxHeartbeats 4000000 in
theorem LC_12 (K : Cx strL D cA h0 p l s m args meth c cL_law RL 7) {Q : State → Prop} {cells slots ax am ao b0 L : Nat} {xs : Nat → Int32} {x4 : Int32} {hp : hpT} {k b : Int32} {h2 : hpT} {g3 : Nat → Option va_E} (hc : cells + 6 ≤ 601024) (hs : slots + 125 ≤ 7293034) (hX : va_X b0 L xs s s.heap) (hbl : b0 < s.heap.size) (hbA : ¬ Af h0 b0) (i1 : vp_in (x4 + 1) L) (i2 : vp_in (x4 + 2) L) (hx7 : ∃ fs, hp.2 ax = some (.inr (7, fs))) (hx8 : ∃ fs, h2.2 am = some (.inr (8, fs))) (hx9 : ∃ fs, g3 am = some (.inr (8, fs))) (hw : wrap cs_L_room (F_X7_room ax (xs (x4 + 1).toNatClampNeg) (xs (x4 + 2).toNatClampNeg) hp) ao = some (.inl k, h2)) (hM : ∀ z, F_X8_room am (xs (x4 + 1).toNatClampNeg) (xs (x4 + 2).toNatClampNeg) (z, h2.2) = some (.inl b, (z, g3))) (hT : ∀ z, F_X8_thrown am (z, g3) = some (.inl k, (z, g3))) (hO : k = 0 → ∃ n f, g3 ao = some (.inl (1, n, .inr (.inl f))) ∧ 0 < n ∧ f 0 = b.toInt64) (kk : ∀ z, G D cA h0 p l e room_1 s m args below meth c 7 Q (cells + 6) (slots + 125) (z, g3) 1301 [some (va_rf (some b0)), some (va_rf (some ax)), some (va_rf (some am)), some (va_rf (some ao)), some (.int x4), none, none] []) : G D cA h0 p l e room_1 s m args below meth c 7 Q cells slots hp 1048 [some (va_rf (some b0)), some (va_rf (some ax)), some (va_rf (some am)), some (va_rf (some ao)), some (.int x4), none, none] [] := by
  obtain ⟨fs7, hx7⟩ := hx7
  obtain ⟨fs8, hx8⟩ := hx8
  obtain ⟨fs9, hx9⟩ := hx9
  refine r_aload_n (pc := 1048) K dL_law_1048 rfl ?_
  refine r_aload_n (pc := 1049) K dL_law_1049 rfl ?_
  refine r_iload (pc := 1050) K dL_law_1050 rfl ?_
  refine r_iconst (pc := 1052) (v := 1) K dL_law_1052 (by decide) ?_
  refine r_iadd (pc := 1053) K dL_law_1053 ?_
  refine r_sld (pc := 1054) K hX hbl hbA i1 dL_law_1054 ?_
  refine r_aload_n (pc := 1055) K dL_law_1055 rfl ?_
  refine r_iload (pc := 1056) K dL_law_1056 rfl ?_
  refine r_iconst (pc := 1058) (v := 2) K dL_law_1058 (by decide) ?_
  refine r_iadd (pc := 1059) K dL_law_1059 ?_
  refine r_sld (pc := 1060) K hX hbl hbA i2 dL_law_1060 ?_
  refine r_aload_n (pc := 1061) K dL_law_1061 rfl ?_
  refine w_int (pc := 1062) (st := []) (As := [va_rf (some ax), .int (xs (x4 + 1).toNatClampNeg), .int (xs (x4 + 2).toNatClampNeg), va_rf (some ao)]) K (M_L_room K.2.2.2.2.2.2.1 _ _ _ _ _ _ ⟨fs7, hx7⟩ hw) dL_law_1062 cw_L_room cs_w_L_room lw_RL_116 rfl rfl (by decide) rfl rfl (Nat.le_of_ble_eq_true rfl) (by show _ ≤ 601024; omega) (by show _ ≤ 7293034; omega) (fun z => ?_)
  refine r_istore (pc := 1065) (lv' := [some (va_rf (some b0)), some (va_rf (some ax)), some (va_rf (some am)), some (va_rf (some ao)), some (.int x4), some (.int k), none]) K dL_law_1065 (by decide) rfl ?_
  refine r_aload_n (pc := 1067) K dL_law_1067 rfl ?_
  refine r_aload_n (pc := 1068) K dL_law_1068 rfl ?_
  refine r_iload (pc := 1069) K dL_law_1069 rfl ?_
  refine r_iconst (pc := 1071) (v := 1) K dL_law_1071 (by decide) ?_
  refine r_iadd (pc := 1072) K dL_law_1072 ?_
  refine r_sld (pc := 1073) K hX hbl hbA i1 dL_law_1073 ?_
  refine r_aload_n (pc := 1074) K dL_law_1074 rfl ?_
  refine r_iload (pc := 1075) K dL_law_1075 rfl ?_
  refine r_iconst (pc := 1077) (v := 2) K dL_law_1077 (by decide) ?_
  refine r_iadd (pc := 1078) K dL_law_1078 ?_
  refine r_sld (pc := 1079) K hX hbl hbA i2 dL_law_1079 ?_
  refine m_int (pc := 1080) (st := []) (As := [.int (xs (x4 + 1).toNatClampNeg), .int (xs (x4 + 2).toNatClampNeg)]) (b := am) (ci := 8) (q0 := (RX8, TX8, 29)) K (M_X8_room K.2.2.2.2.2.2.1 _ _ _ _ _ (hM z)) dL_law_1080 ce_X8_room cv_X8_room lk_RL_118 rfl rfl hx8 rfl rfl (by decide) rfl rfl (Nat.le_of_ble_eq_true rfl) (by show _ ≤ 601024; omega) (by show _ ≤ 7293034; omega) ?_
  refine r_istore (pc := 1083) (lv' := [some (va_rf (some b0)), some (va_rf (some ax)), some (va_rf (some am)), some (va_rf (some ao)), some (.int x4), some (.int k), some (.int b)]) K dL_law_1083 (by decide) rfl ?_
  refine r_aload_n (pc := 1085) K dL_law_1085 rfl ?_
  refine m_int (pc := 1086) (st := []) (As := []) (b := am) (ci := 8) (q0 := (RX8, TX8, 29)) K (M_X8_thrown K.2.2.2.2.2.2.1 _ _ _ (hT z)) dL_law_1086 ce_X8_thrown cv_X8_thrown lk_RL_75 rfl rfl hx9 rfl rfl (by decide) rfl rfl (Nat.le_of_ble_eq_true rfl) (by show _ ≤ 601024; omega) (by show _ ≤ 7293034; omega) ?_
  refine r_iload (pc := 1089) K dL_law_1089 rfl ?_
  refine q_icmp_eq (pc := 1091) (tgt := 1096) K dL_law_1091 (by decide) (fun _ => ?_) (fun q => absurd rfl q)
  refine r_iload (pc := 1096) K dL_law_1096 rfl ?_
  refine q_if_ne (pc := 1098) (tgt := 1113) K dL_law_1098 (by decide) (fun _ => ?_) (fun q => ?_)
  · refine r_goto (pc := 1113) (tgt := 1301) K dL_law_1113 (by decide) ?_
    exact r_widen (by omega) (by omega) (r_weak (lv2 := [some (va_rf (some b0)), some (va_rf (some ax)), some (va_rf (some am)), some (va_rf (some ao)), some (.int x4), none, none]) ⟨rfl, rfl, rfl, rfl, rfl, trivial⟩ (kk z))
  · obtain ⟨n0, f0, g1, g2, g5⟩ := hO q
    refine r_aload_n (pc := 1101) K dL_law_1101 rfl ?_
    refine r_iconst (pc := 1102) (v := 0) K dL_law_1102 (by decide) ?_
    have hl9 := ald_out (z := z) g1 g2 g5
    refine r_lald (pc := 1103) K dL_law_1103 hl9 (fun v9 h9 => ?_)
    have e9 : v9 = b.toInt64 := by cases h9; rfl
    subst e9
    refine r_iload (pc := 1104) K dL_law_1104 rfl ?_
    refine r_i2l (pc := 1106) K dL_law_1106 ?_
    refine r_lcmp (pc := 1107) K dL_law_1107 ?_
    refine q_if_eq (pc := 1108) (tgt := 1113) K dL_law_1108 (by decide) (fun _ => ?_) (fun q => absurd (lg_cmp_self _) q)
    refine r_goto (pc := 1113) (tgt := 1301) K dL_law_1113 (by decide) ?_
    exact r_widen (by omega) (by omega) (r_weak (lv2 := [some (va_rf (some b0)), some (va_rf (some ax)), some (va_rf (some am)), some (va_rf (some ao)), some (.int x4), none, none]) ⟨rfl, rfl, rfl, rfl, rfl, trivial⟩ (kk z))
set_option maxRecDepth 100000 in
set_option maxHeartbeats 4000000 in
theorem LC_13 (K : Cx strL D cA h0 p l s m args meth c cL_law RL 7) {Q : State → Prop} {cells slots ax am ao b0 L : Nat} {xs : Nat → Int32} {x4 : Int32} {hp : hpT} {k b : Int32} {h2 : hpT} {g3 : Nat → Option va_E} (hc : cells + 6 ≤ 601024) (hs : slots + 125 ≤ 7293034) (hX : va_X b0 L xs s s.heap) (hbl : b0 < s.heap.size) (hbA : ¬ Af h0 b0) (i1 : vp_in (x4 + 1) L) (i2 : vp_in (x4 + 2) L) (i3 : vp_in (x4 + 3) L) (hx7 : ∃ fs, hp.2 ax = some (.inr (7, fs))) (hx8 : ∃ fs, h2.2 am = some (.inr (8, fs))) (hx9 : ∃ fs, g3 am = some (.inr (8, fs))) (hw : wrap cs_L_cut (F_X7_cut ax (xs (x4 + 1).toNatClampNeg) (xs (x4 + 2).toNatClampNeg) (xs (x4 + 3).toNatClampNeg) hp) ao = some (.inl k, h2)) (hM : ∀ z, F_X8_cut am (xs (x4 + 1).toNatClampNeg) (xs (x4 + 2).toNatClampNeg) (xs (x4 + 3).toNatClampNeg) (z, h2.2) = some (.inl b, (z, g3))) (hT : ∀ z, F_X8_thrown am (z, g3) = some (.inl k, (z, g3))) (hO : k = 0 → ∃ n f, g3 ao = some (.inl (1, n, .inr (.inl f))) ∧ 0 < n ∧ f 0 = b.toInt64) (kk : ∀ z, G D cA h0 p l e room_1 s m args below meth c 7 Q (cells + 6) (slots + 125) (z, g3) 1301 [some (va_rf (some b0)), some (va_rf (some ax)), some (va_rf (some am)), some (va_rf (some ao)), some (.int x4), none, none] []) : G D cA h0 p l e room_1 s m args below meth c 7 Q cells slots hp 1116 [some (va_rf (some b0)), some (va_rf (some ax)), some (va_rf (some am)), some (va_rf (some ao)), some (.int x4), none, none] [] := by
  obtain ⟨fs7, hx7⟩ := hx7
  obtain ⟨fs8, hx8⟩ := hx8
  obtain ⟨fs9, hx9⟩ := hx9
  refine r_aload_n (pc := 1116) K dL_law_1116 rfl ?_
  refine r_aload_n (pc := 1117) K dL_law_1117 rfl ?_
  refine r_iload (pc := 1118) K dL_law_1118 rfl ?_
  refine r_iconst (pc := 1120) (v := 1) K dL_law_1120 (by decide) ?_
  refine r_iadd (pc := 1121) K dL_law_1121 ?_
  refine r_sld (pc := 1122) K hX hbl hbA i1 dL_law_1122 ?_
  refine r_aload_n (pc := 1123) K dL_law_1123 rfl ?_
  refine r_iload (pc := 1124) K dL_law_1124 rfl ?_
  refine r_iconst (pc := 1126) (v := 2) K dL_law_1126 (by decide) ?_
  refine r_iadd (pc := 1127) K dL_law_1127 ?_
  refine r_sld (pc := 1128) K hX hbl hbA i2 dL_law_1128 ?_
  refine r_aload_n (pc := 1129) K dL_law_1129 rfl ?_
  refine r_iload (pc := 1130) K dL_law_1130 rfl ?_
  refine r_iconst (pc := 1132) (v := 3) K dL_law_1132 (by decide) ?_
  refine r_iadd (pc := 1133) K dL_law_1133 ?_
  refine r_sld (pc := 1134) K hX hbl hbA i3 dL_law_1134 ?_
  refine r_aload_n (pc := 1135) K dL_law_1135 rfl ?_
  refine w_int (pc := 1136) (st := []) (As := [va_rf (some ax), .int (xs (x4 + 1).toNatClampNeg), .int (xs (x4 + 2).toNatClampNeg), .int (xs (x4 + 3).toNatClampNeg), va_rf (some ao)]) K (M_L_cut K.2.2.2.2.2.2.1 _ _ _ _ _ _ _ ⟨fs7, hx7⟩ hw) dL_law_1136 cw_L_cut cs_w_L_cut lw_RL_119 rfl rfl (by decide) rfl rfl (Nat.le_of_ble_eq_true rfl) (by show _ ≤ 601024; omega) (by show _ ≤ 7293034; omega) (fun z => ?_)
  refine r_istore (pc := 1139) (lv' := [some (va_rf (some b0)), some (va_rf (some ax)), some (va_rf (some am)), some (va_rf (some ao)), some (.int x4), some (.int k), none]) K dL_law_1139 (by decide) rfl ?_
  refine r_aload_n (pc := 1141) K dL_law_1141 rfl ?_
  refine r_aload_n (pc := 1142) K dL_law_1142 rfl ?_
  refine r_iload (pc := 1143) K dL_law_1143 rfl ?_
  refine r_iconst (pc := 1145) (v := 1) K dL_law_1145 (by decide) ?_
  refine r_iadd (pc := 1146) K dL_law_1146 ?_
  refine r_sld (pc := 1147) K hX hbl hbA i1 dL_law_1147 ?_
  refine r_aload_n (pc := 1148) K dL_law_1148 rfl ?_
  refine r_iload (pc := 1149) K dL_law_1149 rfl ?_
  refine r_iconst (pc := 1151) (v := 2) K dL_law_1151 (by decide) ?_
  refine r_iadd (pc := 1152) K dL_law_1152 ?_
  refine r_sld (pc := 1153) K hX hbl hbA i2 dL_law_1153 ?_
  refine r_aload_n (pc := 1154) K dL_law_1154 rfl ?_
  refine r_iload (pc := 1155) K dL_law_1155 rfl ?_
  refine r_iconst (pc := 1157) (v := 3) K dL_law_1157 (by decide) ?_
  refine r_iadd (pc := 1158) K dL_law_1158 ?_
  refine r_sld (pc := 1159) K hX hbl hbA i3 dL_law_1159 ?_
  refine m_int (pc := 1160) (st := []) (As := [.int (xs (x4 + 1).toNatClampNeg), .int (xs (x4 + 2).toNatClampNeg), .int (xs (x4 + 3).toNatClampNeg)]) (b := am) (ci := 8) (q0 := (RX8, TX8, 29)) K (M_X8_cut K.2.2.2.2.2.2.1 _ _ _ _ _ _ (hM z)) dL_law_1160 ce_X8_cut cv_X8_cut lk_RL_121 rfl rfl hx8 rfl rfl (by decide) rfl rfl (Nat.le_of_ble_eq_true rfl) (by show _ ≤ 601024; omega) (by show _ ≤ 7293034; omega) ?_
  refine r_istore (pc := 1163) (lv' := [some (va_rf (some b0)), some (va_rf (some ax)), some (va_rf (some am)), some (va_rf (some ao)), some (.int x4), some (.int k), some (.int b)]) K dL_law_1163 (by decide) rfl ?_
  refine r_aload_n (pc := 1165) K dL_law_1165 rfl ?_
  refine m_int (pc := 1166) (st := []) (As := []) (b := am) (ci := 8) (q0 := (RX8, TX8, 29)) K (M_X8_thrown K.2.2.2.2.2.2.1 _ _ _ (hT z)) dL_law_1166 ce_X8_thrown cv_X8_thrown lk_RL_75 rfl rfl hx9 rfl rfl (by decide) rfl rfl (Nat.le_of_ble_eq_true rfl) (by show _ ≤ 601024; omega) (by show _ ≤ 7293034; omega) ?_
  refine r_iload (pc := 1169) K dL_law_1169 rfl ?_
  refine q_icmp_eq (pc := 1171) (tgt := 1176) K dL_law_1171 (by decide) (fun _ => ?_) (fun q => absurd rfl q)
  refine r_iload (pc := 1176) K dL_law_1176 rfl ?_
  refine q_if_ne (pc := 1178) (tgt := 1193) K dL_law_1178 (by decide) (fun _ => ?_) (fun q => ?_)
  · refine r_goto (pc := 1193) (tgt := 1301) K dL_law_1193 (by decide) ?_
    exact r_widen (by omega) (by omega) (r_weak (lv2 := [some (va_rf (some b0)), some (va_rf (some ax)), some (va_rf (some am)), some (va_rf (some ao)), some (.int x4), none, none]) ⟨rfl, rfl, rfl, rfl, rfl, trivial⟩ (kk z))
  · obtain ⟨n0, f0, g1, g2, g5⟩ := hO q
    refine r_aload_n (pc := 1181) K dL_law_1181 rfl ?_
    refine r_iconst (pc := 1182) (v := 0) K dL_law_1182 (by decide) ?_
    have hl9 := ald_out (z := z) g1 g2 g5
    refine r_lald (pc := 1183) K dL_law_1183 hl9 (fun v9 h9 => ?_)
    have e9 : v9 = b.toInt64 := by cases h9; rfl
    subst e9
    refine r_iload (pc := 1184) K dL_law_1184 rfl ?_
    refine r_i2l (pc := 1186) K dL_law_1186 ?_
    refine r_lcmp (pc := 1187) K dL_law_1187 ?_
    refine q_if_eq (pc := 1188) (tgt := 1193) K dL_law_1188 (by decide) (fun _ => ?_) (fun q => absurd (lg_cmp_self _) q)
    refine r_goto (pc := 1193) (tgt := 1301) K dL_law_1193 (by decide) ?_
    exact r_widen (by omega) (by omega) (r_weak (lv2 := [some (va_rf (some b0)), some (va_rf (some ax)), some (va_rf (some am)), some (va_rf (some ao)), some (.int x4), none, none]) ⟨rfl, rfl, rfl, rfl, rfl, trivial⟩ (kk z))
set_option maxRecDepth 100000 in
set_option maxHeartbeats 4000000 in
theorem LC_14 (K : Cx strL D cA h0 p l s m args meth c cL_law RL 7) {Q : State → Prop} {cells slots ax am ao b0 L : Nat} {xs : Nat → Int32} {x4 : Int32} {hp : hpT} {k b : Int32} {h2 : hpT} {g3 : Nat → Option va_E} (hc : cells + 6 ≤ 601024) (hs : slots + 125 ≤ 7293034) (hX : va_X b0 L xs s s.heap) (hbl : b0 < s.heap.size) (hbA : ¬ Af h0 b0) (i1 : vp_in (x4 + 1) L) (i2 : vp_in (x4 + 2) L) (i3 : vp_in (x4 + 3) L) (i4 : vp_in (x4 + 4) L) (hx7 : ∃ fs, hp.2 ax = some (.inr (7, fs))) (hx8 : ∃ fs, h2.2 am = some (.inr (8, fs))) (hx9 : ∃ fs, g3 am = some (.inr (8, fs))) (hw : wrap cs_L_seen (F_X7_seen ax (xs (x4 + 1).toNatClampNeg) (xs (x4 + 2).toNatClampNeg) (xs (x4 + 3).toNatClampNeg) (xs (x4 + 4).toNatClampNeg) hp) ao = some (.inl k, h2)) (hM : ∀ z, F_X8_seen am (xs (x4 + 1).toNatClampNeg) (xs (x4 + 2).toNatClampNeg) (xs (x4 + 3).toNatClampNeg) (xs (x4 + 4).toNatClampNeg) (z, h2.2) = some (.inl b, (z, g3))) (hT : ∀ z, F_X8_thrown am (z, g3) = some (.inl k, (z, g3))) (hO : k = 0 → ∃ n f, g3 ao = some (.inl (1, n, .inr (.inl f))) ∧ 0 < n ∧ f 0 = b.toInt64) (kk : ∀ z, G D cA h0 p l e room_1 s m args below meth c 7 Q (cells + 6) (slots + 125) (z, g3) 1301 [some (va_rf (some b0)), some (va_rf (some ax)), some (va_rf (some am)), some (va_rf (some ao)), some (.int x4), none, none] []) : G D cA h0 p l e room_1 s m args below meth c 7 Q cells slots hp 1196 [some (va_rf (some b0)), some (va_rf (some ax)), some (va_rf (some am)), some (va_rf (some ao)), some (.int x4), none, none] [] := by
  obtain ⟨fs7, hx7⟩ := hx7
  obtain ⟨fs8, hx8⟩ := hx8
  obtain ⟨fs9, hx9⟩ := hx9
  refine r_aload_n (pc := 1196) K dL_law_1196 rfl ?_
  refine r_aload_n (pc := 1197) K dL_law_1197 rfl ?_
  refine r_iload (pc := 1198) K dL_law_1198 rfl ?_
  refine r_iconst (pc := 1200) (v := 1) K dL_law_1200 (by decide) ?_
  refine r_iadd (pc := 1201) K dL_law_1201 ?_
  refine r_sld (pc := 1202) K hX hbl hbA i1 dL_law_1202 ?_
  refine r_aload_n (pc := 1203) K dL_law_1203 rfl ?_
  refine r_iload (pc := 1204) K dL_law_1204 rfl ?_
  refine r_iconst (pc := 1206) (v := 2) K dL_law_1206 (by decide) ?_
  refine r_iadd (pc := 1207) K dL_law_1207 ?_
  refine r_sld (pc := 1208) K hX hbl hbA i2 dL_law_1208 ?_
  refine r_aload_n (pc := 1209) K dL_law_1209 rfl ?_
  refine r_iload (pc := 1210) K dL_law_1210 rfl ?_
  refine r_iconst (pc := 1212) (v := 3) K dL_law_1212 (by decide) ?_
  refine r_iadd (pc := 1213) K dL_law_1213 ?_
  refine r_sld (pc := 1214) K hX hbl hbA i3 dL_law_1214 ?_
  refine r_aload_n (pc := 1215) K dL_law_1215 rfl ?_
  refine r_iload (pc := 1216) K dL_law_1216 rfl ?_
  refine r_iconst (pc := 1218) (v := 4) K dL_law_1218 (by decide) ?_
  refine r_iadd (pc := 1219) K dL_law_1219 ?_
  refine r_sld (pc := 1220) K hX hbl hbA i4 dL_law_1220 ?_
  refine r_aload_n (pc := 1221) K dL_law_1221 rfl ?_
  refine w_int (pc := 1222) (st := []) (As := [va_rf (some ax), .int (xs (x4 + 1).toNatClampNeg), .int (xs (x4 + 2).toNatClampNeg), .int (xs (x4 + 3).toNatClampNeg), .int (xs (x4 + 4).toNatClampNeg), va_rf (some ao)]) K (M_L_seen K.2.2.2.2.2.2.1 _ _ _ _ _ _ _ _ ⟨fs7, hx7⟩ hw) dL_law_1222 cw_L_seen cs_w_L_seen lw_RL_122 rfl rfl (by decide) rfl rfl (Nat.le_of_ble_eq_true rfl) (by show _ ≤ 601024; omega) (by show _ ≤ 7293034; omega) (fun z => ?_)
  refine r_istore (pc := 1225) (lv' := [some (va_rf (some b0)), some (va_rf (some ax)), some (va_rf (some am)), some (va_rf (some ao)), some (.int x4), some (.int k), none]) K dL_law_1225 (by decide) rfl ?_
  refine r_aload_n (pc := 1227) K dL_law_1227 rfl ?_
  refine r_aload_n (pc := 1228) K dL_law_1228 rfl ?_
  refine r_iload (pc := 1229) K dL_law_1229 rfl ?_
  refine r_iconst (pc := 1231) (v := 1) K dL_law_1231 (by decide) ?_
  refine r_iadd (pc := 1232) K dL_law_1232 ?_
  refine r_sld (pc := 1233) K hX hbl hbA i1 dL_law_1233 ?_
  refine r_aload_n (pc := 1234) K dL_law_1234 rfl ?_
  refine r_iload (pc := 1235) K dL_law_1235 rfl ?_
  refine r_iconst (pc := 1237) (v := 2) K dL_law_1237 (by decide) ?_
  refine r_iadd (pc := 1238) K dL_law_1238 ?_
  refine r_sld (pc := 1239) K hX hbl hbA i2 dL_law_1239 ?_
  refine r_aload_n (pc := 1240) K dL_law_1240 rfl ?_
  refine r_iload (pc := 1241) K dL_law_1241 rfl ?_
  refine r_iconst (pc := 1243) (v := 3) K dL_law_1243 (by decide) ?_
  refine r_iadd (pc := 1244) K dL_law_1244 ?_
  refine r_sld (pc := 1245) K hX hbl hbA i3 dL_law_1245 ?_
  refine r_aload_n (pc := 1246) K dL_law_1246 rfl ?_
  refine r_iload (pc := 1247) K dL_law_1247 rfl ?_
  refine r_iconst (pc := 1249) (v := 4) K dL_law_1249 (by decide) ?_
  refine r_iadd (pc := 1250) K dL_law_1250 ?_
  refine r_sld (pc := 1251) K hX hbl hbA i4 dL_law_1251 ?_
  refine m_int (pc := 1252) (st := []) (As := [.int (xs (x4 + 1).toNatClampNeg), .int (xs (x4 + 2).toNatClampNeg), .int (xs (x4 + 3).toNatClampNeg), .int (xs (x4 + 4).toNatClampNeg)]) (b := am) (ci := 8) (q0 := (RX8, TX8, 29)) K (M_X8_seen K.2.2.2.2.2.2.1 _ _ _ _ _ _ _ (hM z)) dL_law_1252 ce_X8_seen cv_X8_seen lk_RL_124 rfl rfl hx8 rfl rfl (by decide) rfl rfl (Nat.le_of_ble_eq_true rfl) (by show _ ≤ 601024; omega) (by show _ ≤ 7293034; omega) ?_
  refine r_istore (pc := 1255) (lv' := [some (va_rf (some b0)), some (va_rf (some ax)), some (va_rf (some am)), some (va_rf (some ao)), some (.int x4), some (.int k), some (.int b)]) K dL_law_1255 (by decide) rfl ?_
  refine r_aload_n (pc := 1257) K dL_law_1257 rfl ?_
  refine m_int (pc := 1258) (st := []) (As := []) (b := am) (ci := 8) (q0 := (RX8, TX8, 29)) K (M_X8_thrown K.2.2.2.2.2.2.1 _ _ _ (hT z)) dL_law_1258 ce_X8_thrown cv_X8_thrown lk_RL_75 rfl rfl hx9 rfl rfl (by decide) rfl rfl (Nat.le_of_ble_eq_true rfl) (by show _ ≤ 601024; omega) (by show _ ≤ 7293034; omega) ?_
  refine r_iload (pc := 1261) K dL_law_1261 rfl ?_
  refine q_icmp_eq (pc := 1263) (tgt := 1268) K dL_law_1263 (by decide) (fun _ => ?_) (fun q => absurd rfl q)
  refine r_iload (pc := 1268) K dL_law_1268 rfl ?_
  refine q_if_ne (pc := 1270) (tgt := 1285) K dL_law_1270 (by decide) (fun _ => ?_) (fun q => ?_)
  · refine r_goto (pc := 1285) (tgt := 1301) K dL_law_1285 (by decide) ?_
    exact r_widen (by omega) (by omega) (r_weak (lv2 := [some (va_rf (some b0)), some (va_rf (some ax)), some (va_rf (some am)), some (va_rf (some ao)), some (.int x4), none, none]) ⟨rfl, rfl, rfl, rfl, rfl, trivial⟩ (kk z))
  · obtain ⟨n0, f0, g1, g2, g5⟩ := hO q
    refine r_aload_n (pc := 1273) K dL_law_1273 rfl ?_
    refine r_iconst (pc := 1274) (v := 0) K dL_law_1274 (by decide) ?_
    have hl9 := ald_out (z := z) g1 g2 g5
    refine r_lald (pc := 1275) K dL_law_1275 hl9 (fun v9 h9 => ?_)
    have e9 : v9 = b.toInt64 := by cases h9; rfl
    subst e9
    refine r_iload (pc := 1276) K dL_law_1276 rfl ?_
    refine r_i2l (pc := 1278) K dL_law_1278 ?_
    refine r_lcmp (pc := 1279) K dL_law_1279 ?_
    refine q_if_eq (pc := 1280) (tgt := 1285) K dL_law_1280 (by decide) (fun _ => ?_) (fun q => absurd (lg_cmp_self _) q)
    refine r_goto (pc := 1285) (tgt := 1301) K dL_law_1285 (by decide) ?_
    exact r_widen (by omega) (by omega) (r_weak (lv2 := [some (va_rf (some b0)), some (va_rf (some ax)), some (va_rf (some am)), some (va_rf (some ao)), some (.int x4), none, none]) ⟨rfl, rfl, rfl, rfl, rfl, trivial⟩ (kk z))
set_option maxRecDepth 100000 in
set_option maxHeartbeats 4000000 in
theorem LC_15 (K : Cx strL D cA h0 p l s m args meth c cL_law RL 7) {Q : State → Prop} {cells slots ax am ao b0 : Nat} {x4 : Int32} {hp : hpT} {v : Int32} {h2 h3 : hpT} (hc : cells + 6 ≤ 601024) (hs : slots + 125 ≤ 7293034) (hx7 : ∃ fs, hp.2 ax = some (.inr (7, fs))) (hx8 : ∃ fs, h2.2 am = some (.inr (8, fs))) (hF : F_X7_lost ax hp = some (.inl v, h2)) (hM : F_X8_lost am h2 = some (.inl v, h3)) (kk : G D cA h0 p l e room_1 s m args below meth c 7 Q (cells + 6) (slots + 125) h3 1301 [some (va_rf (some b0)), some (va_rf (some ax)), some (va_rf (some am)), some (va_rf (some ao)), some (.int x4), none, none] []) : G D cA h0 p l e room_1 s m args below meth c 7 Q cells slots hp 1288 [some (va_rf (some b0)), some (va_rf (some ax)), some (va_rf (some am)), some (va_rf (some ao)), some (.int x4), none, none] [] := by
  obtain ⟨fs7, hx7⟩ := hx7
  obtain ⟨fs8, hx8⟩ := hx8
  refine r_aload_n (pc := 1288) K dL_law_1288 rfl ?_
  refine m_int (pc := 1289) (st := []) (As := []) (b := ax) (ci := 7) (q0 := (RX7, TX7, 8)) K (M_X7_lost K.2.2.2.2.2.2.1 _ _ _ hF) dL_law_1289 ce_X7_lost cv_X7_lost lk_RL_125 rfl rfl hx7 rfl rfl (by decide) rfl rfl (Nat.le_of_ble_eq_true rfl) (by show _ ≤ 601024; omega) (by show _ ≤ 7293034; omega) ?_
  refine r_aload_n (pc := 1292) K dL_law_1292 rfl ?_
  refine m_int (pc := 1293) (st := [.int v]) (As := []) (b := am) (ci := 8) (q0 := (RX8, TX8, 29)) K (M_X8_lost K.2.2.2.2.2.2.1 _ _ _ hM) dL_law_1293 ce_X8_lost cv_X8_lost lk_RL_128 rfl rfl hx8 rfl rfl (by decide) rfl rfl (Nat.le_of_ble_eq_true rfl) (by show _ ≤ 601024; omega) (by show _ ≤ 7293034; omega) ?_
  refine q_icmp_eq (pc := 1296) (tgt := 1301) K dL_law_1296 (by decide) (fun _ => ?_) (fun q => absurd rfl q)
  exact r_widen (by omega) (by omega) kk
end
