/-! THE INVARIANT between the class and the reference, by keys -/
def PREL (A : Adr) (iv : IVt) (rv : RVt) (i : Nat) : Prop := ∃ w h s, PAT A iv rv i w h s ∧ MPA iv i w h s ∧ ∀ a b, a < w → b < h → cF iv i w a b = mF iv i a b
def RREL (A : Adr) (iv : IVt) (rv : RVt) (np i : Nat) : Prop := ∃ p w h s rd, p < np ∧ i < 8 ∧ iv 25 0 i = nI p ∧ MPA iv p w h s ∧ A.2.2 8 i = true ∧ rv 8 i 1 = some (9, i) ∧ CEL A iv rv 9 10 i (rcM w s) (rrM h s) ∧ iv 8 i 0 = nI rd ∧ iv 26 0 i = nI rd ∧ 1 ≤ rd ∧ rd ≤ 60 ∧ ∀ x y, x < rcM w s → y < rrM h s → iv 10 i (y * rcM w s + x) = iv 27 0 (100 * i + 10 * y + x)
def LREL (A : Adr) (iv : IVt) (rv : RVt) (nr i : Nat) : Prop := ∃ q k L, q < nr ∧ i < 10 ∧ A.2.2 11 i = true ∧ rv 11 i 0 = some (8, q) ∧ iv 11 i 1 = nI q ∧ iv 28 0 i = nI q ∧ iv 29 0 i = iv 11 i 2 ∧ iv 11 i 4 = nI k ∧ iv 30 0 i = nI k ∧ k ≤ 20 ∧ iv 11 i 3 = nI L ∧ iv 31 0 i = nI L ∧ 1 ≤ L ∧ L ≤ 200
def WREL (A : Adr) (iv : IVt) (rv : RVt) (k : Nat) : Prop := ∃ d hh, k < 16 ∧ A.2.2 16 k = true ∧ A.2.2 17 k = true ∧ rv 16 k 1 = some (17, k) ∧ iv 16 k 2 = nI d ∧ iv 33 0 k = nI d ∧ 1 ≤ d ∧ d ≤ 24 ∧ iv 16 k 0 = nI hh ∧ iv 34 0 k = nI hh ∧ 1 ≤ hh ∧ hh ≤ 60
def CUTS (iv : IVt) (r n R ph : Nat) : Prop := ∀ w D d, w < n → iv 16 (4 * r + w) 2 = nI D → D ≤ 24 → d < D → ∃ a b, a < 20 ∧ b < 200 ∧ b % R = ph ∧ iv 17 (4 * r + w) d = nI (1000 * a + b) ∧ iv 40 0 (24 * (4 * r + w) + d) = nI a ∧ iv 41 0 (24 * (4 * r + w) + d) = nI b
def HUNG (iv : IVt) (rv : RVt) (r n l : Nat) : Prop := ∃ o ph L R k q, iv 12 r 4 = nI l ∧ iv 35 0 r = nI l ∧ iv 14 r 1 = nI o ∧ iv 37 0 r = nI o ∧ iv 11 l 4 = nI k ∧ o + k ≤ 20 ∧ iv 14 r 5 = nI ph ∧ iv 36 0 r = nI ph ∧ iv 14 r 3 = nI L ∧ iv 11 l 3 = nI L ∧ L ≤ 200 ∧ iv 14 r 4 = nI R ∧ rv 11 l 0 = some (8, q) ∧ iv 9 q 1 = nI R ∧ R ≤ 10 ∧ ph < R ∧ (∀ k, k < o → ∃ e, iv 15 r k = nI e ∧ iv 38 0 (20 * r + k) = nI e ∧ e ≤ 200) ∧ CUTS iv r n R ph
def ROOM (A : Adr) (iv : IVt) (rv : RVt) (nl r : Nat) : Prop := A.2.2 12 r = true ∧ A.2.2 13 r = true ∧ A.2.2 14 r = true ∧ A.2.2 15 r = true ∧ rv 12 r 0 = some (13, r) ∧ rv 12 r 1 = some (14, r) ∧ rv 14 r 0 = some (15, r) ∧ ∃ n, n ≤ 4 ∧ iv 12 r 2 = nI n ∧ iv 32 0 r = nI n ∧ (∀ w, w < 4 → rv 13 r w = if w < n then some (16, 4 * r + w) else none) ∧ (∀ w, n ≤ w → w < 4 → A.2.2 16 (4 * r + w) = false ∧ A.2.2 17 (4 * r + w) = false) ∧ (∀ w, w < n → WREL A iv rv (4 * r + w)) ∧ ((rv 12 r 3 = none ∧ iv 35 0 r = -1) ∨ ∃ l, l < nl ∧ rv 12 r 3 = some (11, l) ∧ HUNG iv rv r n l)
def TOP (A : Adr) (rv : RVt) (np nr nl : Nat) : Prop := (A.2.2 0 0 = true ∧ A.2.2 1 0 = true ∧ A.2.2 2 0 = true ∧ A.2.2 3 0 = true ∧ A.2.2 4 0 = true) ∧ (rv 0 0 0 = some (1, 0) ∧ rv 0 0 2 = some (2, 0) ∧ rv 0 0 4 = some (3, 0) ∧ rv 0 0 6 = some (4, 0)) ∧ (∀ i, i < 6 → rv 1 0 i = if i < np then some (5, i) else none) ∧ (∀ i, i < 8 → rv 2 0 i = if i < nr then some (8, i) else none) ∧ (∀ i, i < 10 → rv 3 0 i = if i < nl then some (11, i) else none) ∧ (∀ i, i < 4 → rv 4 0 i = some (12, i)) ∧
  (∀ i, np ≤ i → A.2.2 5 i = false ∧ A.2.2 6 i = false ∧ A.2.2 7 i = false) ∧ (∀ i, nr ≤ i → A.2.2 8 i = false ∧ A.2.2 9 i = false ∧ A.2.2 10 i = false) ∧ (∀ i, nl ≤ i → A.2.2 11 i = false) ∧ A.2.2 18 0 = true ∧ ∀ i, A.2.2 18 i = true → i = 0
def CNT (iv : IVt) (np nr nl : Nat) : Prop := iv 0 0 1 = nI np ∧ iv 20 0 1 = nI np ∧ np ≤ 6 ∧ iv 0 0 3 = nI nr ∧ iv 20 0 6 = nI nr ∧ nr ≤ 8 ∧ iv 0 0 5 = nI nl ∧ iv 20 0 10 = nI nl ∧ nl ≤ 10 ∧ iv 20 0 28 = iv 0 0 7 ∧ ∀ k, 25 * np ≤ k → iv 24 0 k = 0
def INV (A : Adr) (iv : IVt) (rv : RVt) (np nr nl : Nat) : Prop := MD A rv ∧ TOP A rv np nr nl ∧ CNT iv np nr nl ∧ (∀ i, i < np → PREL A iv rv i) ∧ (∀ i, i < nr → RREL A iv rv np i) ∧ (∀ i, i < nl → LREL A iv rv nr i) ∧ ∀ r, r < 4 → ROOM A iv rv nl r
def RFA (A : Adr) (rv : RVt) : Prop := ∀ T i j q, A.2.2 T i = true → rv T i j = some q → A.2.2 q.1 q.2 = true
def IV (ax am ao : Nat) (g : Nat → Option va_E) : Prop := ∃ A iv rv ov np nr nl, g = hv A iv rv ov ∧ RFA A rv ∧ A.1 0 0 = ax ∧ A.1 20 0 = am ∧ A.1 18 0 = ao ∧ INV A iv rv np nr nl
/-! what a call must do -/
def SCB (Inv : (Nat → Option va_E) → Prop) (am ao : Nat) (cs : List String) (X : Rs Int32) (Y : hpT → Rs Int32) : Prop := ∃ (k : Int32) (h2 : hpT) (b : Int32) (g3 : Nat → Option va_E), wrap cs X ao = some (.inl k, h2) ∧ (∃ fs, h2.2 am = some (.inr (8, fs))) ∧ (∀ z1, Y (z1, h2.2) = some (.inl b, (z1, g3))) ∧ (∀ z1, F_X8_thrown am (z1, g3) = some (.inl k, (z1, g3))) ∧ (k = 0 → ∃ n f, g3 ao = some (.inl (1, n, .inr (.inl f))) ∧ 0 < n ∧ f 0 = b.toInt64) ∧ Inv g3
theorem md_at {A : Adr} {iv : IVt} {rv : RVt} {ov : Nat → Int64} (hM : MD A rv) : ∃ fs, hv A iv rv ov (A.1 20 0) = some (.inr (8, fs)) := by
  rw [hv_at hM.1 hM.2.1, cont_O (ci := 8) (by rfl) (by decide)]
  exact ⟨_, rfl⟩
theorem fin_ok {ax am ao : Nat} {cs : List String} {X : Rs Int32} {Y : hpT → Rs Int32} {A : Adr} {iv1 iv2 : IVt} {rv : RVt} {ov : Nat → Int64} {z np nr nl : Nat} {x : Int32} (hX : X = rtv x (z, hv A iv1 rv ov)) (hY : ∀ z1 ov', Y (z1, hv A iv1 rv ov') = rtv x (z1, hv A iv2 rv ov')) (h0 : iv2 20 0 0 = 0) (hF : RFA A rv) (hax : A.1 0 0 = ax) (ham : A.1 20 0 = am) (hao : A.1 18 0 = ao) (hI : INV A iv2 rv np nr nl) : SCB (IV ax am ao) am ao cs X Y := by
  have hM := hI.1
  obtain ⟨-, -, -, -, -, -, -, -, -, t1, t2⟩ := id hI.2.1
  subst ham hao
  refine ⟨0, (z, hv A iv1 rv (vp_updL ov 0 x.toInt64)), x, hv A iv2 rv (vp_updL ov 0 x.toInt64), ?_, md_at hM, fun z1 => hY z1 _, fun z1 => ?_, fun _ => ?_, A, iv2, rv, _, np, nr, nl, rfl, hF, hax, rfl, rfl, hI⟩
  · subst hX
    show astL (z, hv A iv1 rv ov) (A.1 18 0) 0 x.toInt64 (fun h2 => rtv 0 h2) = _
    rw [astL_hv hM.1 t1 t2]
    rfl
  · rw [thrown_spec hM, h0]
    rfl
  · rw [hv_at hM.1 t1, cont_L (by rfl)]
    exact ⟨1, _, rfl, by decide, if_pos rfl⟩
theorem fin_ex {ax am ao : Nat} {cs : List String} {E : String} {X : Rs Int32} {Y : hpT → Rs Int32} {A : Adr} {iv1 iv2 : IVt} {rv : RVt} {ov : Nat → Int64} {z np nr nl : Nat} {k b : Int32} (hX : X = tht E (z, hv A iv1 rv ov)) (hc : ∀ h : hpT, (wcode cs 1 E fun k => rtv k h) = rtv k h) (hY : ∀ z1, Y (z1, hv A iv1 rv ov) = rtv b (z1, hv A iv2 rv ov)) (hk : k ≠ 0) (h0 : iv2 20 0 0 = k) (hF : RFA A rv) (hax : A.1 0 0 = ax) (ham : A.1 20 0 = am) (hao : A.1 18 0 = ao) (hI : INV A iv2 rv np nr nl) : SCB (IV ax am ao) am ao cs X Y := by
  have hM := hI.1
  subst ham hao
  refine ⟨k, (z, hv A iv1 rv ov), b, hv A iv2 rv ov, ?_, md_at hM, fun z1 => hY z1, fun z1 => ?_, fun q => absurd q hk, A, iv2, rv, _, np, nr, nl, rfl, hF, hax, rfl, rfl, hI⟩
  · subst hX
    exact hc _
  · rw [thrown_spec hM, h0]
    rfl
/-! the parts of the invariant over heaps that agree where they look -/
theorem CEL.to {A A' : Adr} {iv iv' : IVt} {rv rv' : RVt} {T U i c r : Nat} (h : CEL A iv rv T U i c r) (hl : ∀ T i, A.2.2 T i = true → A'.2.2 T i = true) (hr : rv' T i 2 = rv T i 2) (h0 : iv' T i 0 = iv T i 0) (h1 : iv' T i 1 = iv T i 1) : CEL A' iv' rv' T U i c r := by
  obtain ⟨g1, g2, g3, g4, g5, g6, g7, g8, g9⟩ := h
  exact ⟨hl _ _ g1, hl _ _ g2, g3, g4, g5, hr.trans g6, h0.trans g7, h1.trans g8, g9⟩
theorem MPA.to {iv iv' : IVt} {i w h s : Nat} (hP : MPA iv i w h s) (h1 : iv' 21 0 i = iv 21 0 i) (h2 : iv' 22 0 i = iv 22 0 i) (h3 : iv' 23 0 i = iv 23 0 i) : MPA iv' i w h s := by
  obtain ⟨g1, g2, g3, g4, g5⟩ := hP
  exact ⟨g1, h1.trans g2, h2.trans g3, h3.trans g4, g5⟩
theorem PAT.to {A A' : Adr} {iv iv' : IVt} {rv rv' : RVt} {i w h s : Nat} (hP : PAT A iv rv i w h s) (hl : ∀ T i, A.2.2 T i = true → A'.2.2 T i = true) (hr5 : rv' 5 i 0 = rv 5 i 0) (hr6 : rv' 6 i 2 = rv 6 i 2) (h5 : ∀ j, iv' 5 i j = iv 5 i j) (h6 : ∀ j, iv' 6 i j = iv 6 i j) : PAT A' iv' rv' i w h s := by
  obtain ⟨g1, g2, g3, g4, g5, g6, g7⟩ := hP
  exact ⟨hl _ _ g1, g2.to hl hr6 (h6 0) (h6 1), hr5.trans g3, (h5 1).trans g4, (h5 2).trans g5, (h5 3).trans g6, g7⟩
theorem PREL.to {A A' : Adr} {iv iv' : IVt} {rv rv' : RVt} {i : Nat} (hP : PREL A iv rv i) (hl : ∀ T i, A.2.2 T i = true → A'.2.2 T i = true) (hr5 : rv' 5 i 0 = rv 5 i 0) (hr6 : rv' 6 i 2 = rv 6 i 2) (h5 : ∀ j, iv' 5 i j = iv 5 i j) (h6 : ∀ j, iv' 6 i j = iv 6 i j) (h7 : ∀ j, iv' 7 i j = iv 7 i j) (h21 : iv' 21 0 i = iv 21 0 i) (h22 : iv' 22 0 i = iv 22 0 i) (h23 : iv' 23 0 i = iv 23 0 i) (h24 : ∀ k, 25 * i ≤ k → k < 25 * i + 25 → iv' 24 0 k = iv 24 0 k) : PREL A' iv' rv' i := by
  obtain ⟨w, h, s, g1, g2, g3⟩ := hP
  refine ⟨w, h, s, g1.to hl hr5 hr6 h5 h6, g2.to h21 h22 h23, fun a b ha hb => ?_⟩
  have q := g3 a b ha hb
  obtain ⟨-, -, -, -, -, q6, -, q8, -⟩ := g2
  unfold cF mF at q ⊢
  rw [h7, h24 _ (by omega) (by omega)]
  exact q
theorem RREL.to {A A' : Adr} {iv iv' : IVt} {rv rv' : RVt} {np np' i : Nat} (hP : RREL A iv rv np i) (hn : np ≤ np') (hl : ∀ T i, A.2.2 T i = true → A'.2.2 T i = true) (hr8 : rv' 8 i 1 = rv 8 i 1) (hr9 : rv' 9 i 2 = rv 9 i 2) (h8 : iv' 8 i 0 = iv 8 i 0) (h90 : iv' 9 i 0 = iv 9 i 0) (h91 : iv' 9 i 1 = iv 9 i 1) (h10 : ∀ j, iv' 10 i j = iv 10 i j) (h21 : ∀ p, p < np → iv' 21 0 p = iv 21 0 p) (h22 : ∀ p, p < np → iv' 22 0 p = iv 22 0 p) (h23 : ∀ p, p < np → iv' 23 0 p = iv 23 0 p) (h25 : iv' 25 0 i = iv 25 0 i) (h26 : iv' 26 0 i = iv 26 0 i) (h27 : ∀ k, 100 * i ≤ k → k < 100 * i + 100 → iv' 27 0 k = iv 27 0 k) : RREL A' iv' rv' np' i := by
  obtain ⟨p, w, h, s, rd, g1, g2, g3, g4, g5, g6, g7, g8, g9, g10, g11, g12⟩ := hP
  refine ⟨p, w, h, s, rd, by omega, g2, h25.trans g3, g4.to (h21 p g1) (h22 p g1) (h23 p g1), hl _ _ g5, hr8.trans g6, g7.to hl hr9 h90 h91, h8.trans g8, h26.trans g9, g10, g11, fun x y hx hy => ?_⟩
  obtain ⟨-, -, -, -, -, -, -, -, q9, q10, q11, q12⟩ := g7
  rw [h10, h27 _ (by omega) (by omega)]
  exact g12 x y hx hy
theorem LREL.to {A A' : Adr} {iv iv' : IVt} {rv rv' : RVt} {nr nr' i : Nat} (hP : LREL A iv rv nr i) (hn : nr ≤ nr') (hl : ∀ T i, A.2.2 T i = true → A'.2.2 T i = true) (hr : rv' 11 i 0 = rv 11 i 0) (h11 : ∀ j, iv' 11 i j = iv 11 i j) (h28 : iv' 28 0 i = iv 28 0 i) (h29 : iv' 29 0 i = iv 29 0 i) (h30 : iv' 30 0 i = iv 30 0 i) (h31 : iv' 31 0 i = iv 31 0 i) : LREL A' iv' rv' nr' i := by
  obtain ⟨q, k, L, g1, g2, g3, g4, g5, g6, g7, g8, g9, g10, g11, g12, g13⟩ := hP
  exact ⟨q, k, L, by omega, g2, hl _ _ g3, hr.trans g4, (h11 1).trans g5, h28.trans g6, by rw [h29, h11, g7], (h11 4).trans g8, h30.trans g9, g10, (h11 3).trans g11, h31.trans g12, g13⟩
theorem WREL.to {A A' : Adr} {iv iv' : IVt} {rv rv' : RVt} {k : Nat} (hP : WREL A iv rv k) (hl : ∀ T i, A.2.2 T i = true → A'.2.2 T i = true) (hr : rv' 16 k 1 = rv 16 k 1) (h16 : ∀ j, iv' 16 k j = iv 16 k j) (h33 : iv' 33 0 k = iv 33 0 k) (h34 : iv' 34 0 k = iv 34 0 k) : WREL A' iv' rv' k := by
  obtain ⟨d, hh, g1, g2, g3, g4, g5, g6, g7, g8, g9, g10, g11⟩ := hP
  exact ⟨d, hh, g1, hl _ _ g2, hl _ _ g3, hr.trans g4, (h16 2).trans g5, h33.trans g6, g7, g8, (h16 0).trans g9, h34.trans g10, g11⟩
theorem CUTS.to {iv iv' : IVt} {r n R ph : Nat} (hP : CUTS iv r n R ph) (h16 : ∀ w, w < n → iv' 16 (4 * r + w) 2 = iv 16 (4 * r + w) 2) (h17 : ∀ w j, w < n → iv' 17 (4 * r + w) j = iv 17 (4 * r + w) j) (h40 : ∀ w d, w < n → d < 24 → iv' 40 0 (24 * (4 * r + w) + d) = iv 40 0 (24 * (4 * r + w) + d)) (h41 : ∀ w d, w < n → d < 24 → iv' 41 0 (24 * (4 * r + w) + d) = iv 41 0 (24 * (4 * r + w) + d)) : CUTS iv' r n R ph := by
  intro w D d hw hD hD24 hd
  rw [h16 w hw] at hD
  rw [h17 w d hw, h40 w d hw (by omega), h41 w d hw (by omega)]
  exact hP w D d hw hD hD24 hd
