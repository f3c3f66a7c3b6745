/-! THE INVARIANT of the class, by keys -/
theorem u3_tag {α : Type} {f : Nat → Nat → Nat → α} {T i j T' : Nat} {x : α} (h : T' ≠ T) : u3 f T i j x T' = f T' := funext fun b => funext fun c => if_neg (fun q => h q.1)
theorem z3_tag {α : Type} {f : Nat → Nat → Nat → α} {T i T' : Nat} {x : α} (h : T' ≠ T) : z3 f T i x T' = f T' := funext fun b => funext fun c => if_neg (fun q => h q.1)
def nsum (f : Nat → Nat) : Nat → Nat
  | 0 => 0
  | k + 1 => nsum f k + f k
theorem nsum_congr {f g : Nat → Nat} : ∀ n, (∀ w, w < n → f w = g w) → nsum f n = nsum g n
  | 0, _ => rfl
  | n + 1, h => by
    unfold nsum
    rw [nsum_congr n (fun w hw => h w (by omega)), h n (by omega)]
def vN (x : Int32) : Nat := x.toNatClampNeg
theorem vN_nI {n : Nat} (h : n < 2 ^ 31) : vN (nI n) = n := nI_clamp h
/-- the rows of all drops of a room of n walls -/
def area (iv : IVt) (r n : Nat) : Nat := nsum (fun w => vN (iv 16 (4 * r + w) 2) * vN (iv 16 (4 * r + w) 0)) n
def PREL (A : Adr) (iv : IVt) (rv : RVt) (i : Nat) : Prop := ∃ w h s, PAT A iv rv i w h s ∧ ∀ k, ∃ c, c ≤ 7 ∧ iv 7 i k = nI c
def RREL (A : Adr) (iv : IVt) (rv : RVt) (i : Nat) : Prop := ∃ c r rd, i < 8 ∧ A.2.2 8 i = true ∧ rv 8 i 1 = some (9, i) ∧ CEL A iv rv 9 10 i c r ∧ iv 8 i 0 = nI rd ∧ 1 ≤ rd ∧ rd ≤ 60
def LREL (A : Adr) (iv : IVt) (rv : RVt) (nr i : Nat) : Prop := ∃ q k L, q < nr ∧ i < 10 ∧ A.2.2 11 i = true ∧ rv 11 i 0 = some (8, q) ∧ iv 11 i 1 = nI q ∧ iv 11 i 4 = nI k ∧ k ≤ 20 ∧ iv 11 i 3 = nI L ∧ 1 ≤ L ∧ L ≤ 200
def WREL (A : Adr) (iv : IVt) (rv : RVt) (k : Nat) : Prop := ∃ d hh, k < 16 ∧ A.2.2 16 k = true ∧ A.2.2 17 k = true ∧ rv 16 k 1 = some (17, k) ∧ iv 16 k 2 = nI d ∧ 1 ≤ d ∧ d ≤ 24 ∧ iv 16 k 0 = nI hh ∧ 1 ≤ hh ∧ hh ≤ 60
def CUTS (iv : IVt) (r n R ph L o : Nat) : Prop := ∀ w D hh d, w < n → iv 16 (4 * r + w) 2 = nI D → D ≤ 24 → iv 16 (4 * r + w) 0 = nI hh → hh ≤ 60 → d < D → ∃ a b, a < o ∧ b + hh ≤ L ∧ b % R = ph ∧ iv 17 (4 * r + w) d = nI (1000 * a + b)
def LASTS (iv : IVt) (r n o L : Nat) : Prop := ∃ e : Nat → Nat, (∀ k, k < o → iv 15 r k = nI (e k) ∧ e k ≤ L) ∧ area iv r n ≤ nsum e o
def HUNG (iv : IVt) (rv : RVt) (r n l : Nat) : Prop := ∃ o ph L R k q, iv 12 r 4 = nI l ∧ iv 14 r 1 = nI o ∧ iv 11 l 4 = nI k ∧ o + k ≤ 20 ∧ iv 14 r 5 = nI ph ∧ iv 14 r 3 = nI L ∧ iv 11 l 3 = nI L ∧ L ≤ 200 ∧ iv 14 r 4 = nI R ∧ rv 11 l 0 = some (8, q) ∧ iv 9 q 1 = nI R ∧ R ≤ 10 ∧ ph < R ∧ LASTS iv r n o L ∧ CUTS iv r n R ph L o
def ROOM (A : Adr) (iv : IVt) (rv : RVt) (nl r : Nat) : Prop := A.2.2 12 r = true ∧ A.2.2 13 r = true ∧ A.2.2 14 r = true ∧ A.2.2 15 r = true ∧ rv 12 r 0 = some (13, r) ∧ rv 12 r 1 = some (14, r) ∧ rv 14 r 0 = some (15, r) ∧ ∃ n, n ≤ 4 ∧ iv 12 r 2 = nI n ∧ (∀ w, w < 4 → rv 13 r w = if w < n then some (16, 4 * r + w) else none) ∧ (∀ w, n ≤ w → w < 4 → A.2.2 16 (4 * r + w) = false ∧ A.2.2 17 (4 * r + w) = false) ∧ (∀ w, w < n → WREL A iv rv (4 * r + w)) ∧ (rv 12 r 3 = none ∨ ∃ l, l < nl ∧ 1 ≤ n ∧ rv 12 r 3 = some (11, l) ∧ HUNG iv rv r n l)
def TOP (A : Adr) (rv : RVt) (np nr nl : Nat) : Prop := (A.2.2 0 0 = true ∧ A.2.2 1 0 = true ∧ A.2.2 2 0 = true ∧ A.2.2 3 0 = true ∧ A.2.2 4 0 = true) ∧ (rv 0 0 0 = some (1, 0) ∧ rv 0 0 2 = some (2, 0) ∧ rv 0 0 4 = some (3, 0) ∧ rv 0 0 6 = some (4, 0)) ∧ (∀ i, i < 6 → rv 1 0 i = if i < np then some (5, i) else none) ∧ (∀ i, i < 8 → rv 2 0 i = if i < nr then some (8, i) else none) ∧ (∀ i, i < 10 → rv 3 0 i = if i < nl then some (11, i) else none) ∧ (∀ i, i < 4 → rv 4 0 i = some (12, i)) ∧
  (∀ i, np ≤ i → A.2.2 5 i = false ∧ A.2.2 6 i = false ∧ A.2.2 7 i = false) ∧ (∀ i, nr ≤ i → A.2.2 8 i = false ∧ A.2.2 9 i = false ∧ A.2.2 10 i = false) ∧ (∀ i, nl ≤ i → A.2.2 11 i = false)
def CNT (iv : IVt) (np nr nl : Nat) : Prop := iv 0 0 1 = nI np ∧ np ≤ 6 ∧ iv 0 0 3 = nI nr ∧ nr ≤ 8 ∧ iv 0 0 5 = nI nl ∧ nl ≤ 10
def INV (A : Adr) (iv : IVt) (rv : RVt) (np nr nl : Nat) : Prop := IN A ∧ TOP A rv np nr nl ∧ CNT iv np nr nl ∧ (∀ i, i < np → PREL A iv rv i) ∧ (∀ i, i < nr → RREL A iv rv i) ∧ (∀ i, i < nl → LREL A iv rv nr i) ∧ ∀ r, r < 4 → ROOM A iv rv nl r
def RFA (A : Adr) (rv : RVt) : Prop := ∀ T i j q, A.2.2 T i = true → rv T i j = some q → A.2.2 q.1 q.2 = true
theorem oka_of {A : Adr} {iv : IVt} {rv : RVt} {ov : Nat → Int64} {z : Nat} (hA : IN A) (hF : RFA A rv) (hz : ∀ a e, hv A iv rv ov a = some e → a < z) : OKA A rv z := ⟨hA, fun T i hl => hz _ _ (hv_at hA hl), hF⟩
theorem OKA.al {A : Adr} {rv : RVt} {z T i : Nat} (hA : OKA A rv z) (hn : A.2.2 T i = false) : OKA (alA A T i z) (z3 rv T i none) (z + 1) := (hpush_hv (iv := fun _ _ _ => 0) (ov := fun _ => 0) (iv' := fun _ _ _ => 0) (rv' := z3 rv T i none) (e := cont (alA A T i z).1 (fun _ _ _ => 0) (z3 rv T i none) (fun _ => 0) T i) hA hn rfl (fun _ _ _ => rfl) (fun T' i' q => z3_row q) (fun j => z3_s)).2
/-! the parts of the invariant over heaps that agree where they look -/
theorem CEL.to {A A' : Adr} {iv iv' : IVt} {rv rv' : RVt} {T U i c r : Nat} (h : CEL A iv rv T U i c r) (hl : ∀ T i, A.2.2 T i = true → A'.2.2 T i = true) (hr : rv' T i 2 = rv T i 2) (h0 : iv' T i 0 = iv T i 0) (h1 : iv' T i 1 = iv T i 1) : CEL A' iv' rv' T U i c r := by
  obtain ⟨g1, g2, g3, g4, g5, g6, g7, g8, g9⟩ := h
  exact ⟨hl _ _ g1, hl _ _ g2, g3, g4, g5, hr.trans g6, h0.trans g7, h1.trans g8, g9⟩
theorem PAT.to {A A' : Adr} {iv iv' : IVt} {rv rv' : RVt} {i w h s : Nat} (hP : PAT A iv rv i w h s) (hl : ∀ T i, A.2.2 T i = true → A'.2.2 T i = true) (hr5 : rv' 5 i 0 = rv 5 i 0) (hr6 : rv' 6 i 2 = rv 6 i 2) (h5 : ∀ j, iv' 5 i j = iv 5 i j) (h6 : ∀ j, iv' 6 i j = iv 6 i j) : PAT A' iv' rv' i w h s := by
  obtain ⟨g1, g2, g3, g4, g5, g6, g7⟩ := hP
  exact ⟨hl _ _ g1, g2.to hl hr6 (h6 0) (h6 1), hr5.trans g3, (h5 1).trans g4, (h5 2).trans g5, (h5 3).trans g6, g7⟩
theorem PREL.to {A A' : Adr} {iv iv' : IVt} {rv rv' : RVt} {i : Nat} (hP : PREL A iv rv i) (hl : ∀ T i, A.2.2 T i = true → A'.2.2 T i = true) (hr5 : rv' 5 i 0 = rv 5 i 0) (hr6 : rv' 6 i 2 = rv 6 i 2) (h5 : ∀ j, iv' 5 i j = iv 5 i j) (h6 : ∀ j, iv' 6 i j = iv 6 i j) (h7 : ∀ k, ∃ c, c ≤ 7 ∧ iv' 7 i k = nI c) : PREL A' iv' rv' i := by
  obtain ⟨w, h, s, g1, g2⟩ := hP
  exact ⟨w, h, s, g1.to hl hr5 hr6 h5 h6, h7⟩
theorem PREL.col {A : Adr} {iv iv' : IVt} {rv : RVt} {i : Nat} (hP : PREL A iv rv i) (h7 : ∀ j, iv' 7 i j = iv 7 i j) : ∀ k, ∃ c, c ≤ 7 ∧ iv' 7 i k = nI c := by
  obtain ⟨w, h, s, g1, g2⟩ := hP
  intro k
  rw [h7]
  exact g2 k
theorem RREL.to {A A' : Adr} {iv iv' : IVt} {rv rv' : RVt} {i : Nat} (hP : RREL A iv rv i) (hl : ∀ T i, A.2.2 T i = true → A'.2.2 T i = true) (hr8 : rv' 8 i 1 = rv 8 i 1) (hr9 : rv' 9 i 2 = rv 9 i 2) (h8 : iv' 8 i 0 = iv 8 i 0) (h90 : iv' 9 i 0 = iv 9 i 0) (h91 : iv' 9 i 1 = iv 9 i 1) : RREL A' iv' rv' i := by
  obtain ⟨c, r, rd, g2, g5, g6, g7, g8, g10, g11⟩ := hP
  exact ⟨c, r, rd, g2, hl _ _ g5, hr8.trans g6, g7.to hl hr9 h90 h91, h8.trans g8, g10, g11⟩
theorem LREL.to {A A' : Adr} {iv iv' : IVt} {rv rv' : RVt} {nr nr' i : Nat} (hP : LREL A iv rv nr i) (hn : nr ≤ nr') (hl : ∀ T i, A.2.2 T i = true → A'.2.2 T i = true) (hr : rv' 11 i 0 = rv 11 i 0) (h11 : ∀ j, iv' 11 i j = iv 11 i j) : LREL A' iv' rv' nr' i := by
  obtain ⟨q, k, L, g1, g2, g3, g4, g5, g8, g10, g11, g13⟩ := hP
  exact ⟨q, k, L, by omega, g2, hl _ _ g3, hr.trans g4, (h11 1).trans g5, (h11 4).trans g8, g10, (h11 3).trans g11, g13⟩
theorem WREL.to {A A' : Adr} {iv iv' : IVt} {rv rv' : RVt} {k : Nat} (hP : WREL A iv rv k) (hl : ∀ T i, A.2.2 T i = true → A'.2.2 T i = true) (hr : rv' 16 k 1 = rv 16 k 1) (h16 : ∀ j, iv' 16 k j = iv 16 k j) : WREL A' iv' rv' k := by
  obtain ⟨d, hh, g1, g2, g3, g4, g5, g7, g8, g9, g11⟩ := hP
  exact ⟨d, hh, g1, hl _ _ g2, hl _ _ g3, hr.trans g4, (h16 2).trans g5, g7, g8, (h16 0).trans g9, g11⟩
theorem area_to {iv iv' : IVt} {r n : Nat} (h16 : ∀ w j, w < n → iv' 16 (4 * r + w) j = iv 16 (4 * r + w) j) : area iv' r n = area iv r n := nsum_congr n fun w hw => by rw [h16 w 2 hw, h16 w 0 hw]
theorem CUTS.to {iv iv' : IVt} {r n R ph L o : Nat} (hP : CUTS iv r n R ph L o) (h16 : ∀ w j, w < n → iv' 16 (4 * r + w) j = iv 16 (4 * r + w) j) (h17 : ∀ w j, w < n → iv' 17 (4 * r + w) j = iv 17 (4 * r + w) j) : CUTS iv' r n R ph L o := by
  intro w D hh d hw hD hD24 hH hH60 hd
  rw [h16 w 2 hw] at hD
  rw [h16 w 0 hw] at hH
  rw [h17 w d hw]
  exact hP w D hh d hw hD hD24 hH hH60 hd
theorem LASTS.to {iv iv' : IVt} {r n o L : Nat} (hP : LASTS iv r n o L) (h15 : ∀ j, iv' 15 r j = iv 15 r j) (h16 : ∀ w j, w < n → iv' 16 (4 * r + w) j = iv 16 (4 * r + w) j) : LASTS iv' r n o L := by
  obtain ⟨e, h1, h2⟩ := hP
  refine ⟨e, fun k hk => ?_, ?_⟩
  · rw [h15]
    exact h1 k hk
  · rw [area_to h16]
    exact h2
theorem HUNG.to {iv iv' : IVt} {rv rv' : RVt} {r n l : Nat} (hP : HUNG iv rv r n l) (hr : rv' 11 l 0 = rv 11 l 0) (h12 : ∀ j, iv' 12 r j = iv 12 r j) (h14 : ∀ j, iv' 14 r j = iv 14 r j) (h15 : ∀ j, iv' 15 r j = iv 15 r j) (h113 : iv' 11 l 3 = iv 11 l 3) (h114 : ∀ k, iv 11 l 4 = nI k → ∃ k', k' ≤ k ∧ iv' 11 l 4 = nI k') (h9 : ∀ q, rv 11 l 0 = some (8, q) → iv' 9 q 1 = iv 9 q 1) (h16 : ∀ w j, w < n → iv' 16 (4 * r + w) j = iv 16 (4 * r + w) j) (h17 : ∀ w j, w < n → iv' 17 (4 * r + w) j = iv 17 (4 * r + w) j) : HUNG iv' rv' r n l := by
  obtain ⟨o, ph, L, R, k, q, g1, g3, g5, g6, g7, g9, g10, g11, g12, g13, g14, g15, g16, g17, g18⟩ := hP
  obtain ⟨k', q1, q2⟩ := h114 k g5
  exact ⟨o, ph, L, R, k', q, (h12 4).trans g1, (h14 1).trans g3, q2, by omega, (h14 5).trans g7, (h14 3).trans g9, h113.trans g10, g11, (h14 4).trans g12, hr.trans g13, (h9 q g13).trans g14, g15, g16, g17.to h15 h16, g18.to h16 h17⟩
theorem ROOM.to {A A' : Adr} {iv iv' : IVt} {rv rv' : RVt} {nl nl' r : Nat} (hP : ROOM A iv rv nl r) (hn : nl ≤ nl') (hl : ∀ T i, A.2.2 T i = true → A'.2.2 T i = true) (hd : ∀ w, w < 4 → A.2.2 16 (4 * r + w) = false ∧ A.2.2 17 (4 * r + w) = false → A'.2.2 16 (4 * r + w) = false ∧ A'.2.2 17 (4 * r + w) = false)
    (hr12 : ∀ j, rv' 12 r j = rv 12 r j) (hr14 : rv' 14 r 0 = rv 14 r 0) (hr13 : ∀ w, w < 4 → rv' 13 r w = rv 13 r w) (hr16 : ∀ w, w < 4 → rv' 16 (4 * r + w) 1 = rv 16 (4 * r + w) 1) (hr11 : ∀ l, l < nl → rv' 11 l 0 = rv 11 l 0) (h12 : ∀ j, iv' 12 r j = iv 12 r j) (h14 : ∀ j, iv' 14 r j = iv 14 r j) (h15 : ∀ j, iv' 15 r j = iv 15 r j) (h16 : ∀ w j, w < 4 → iv' 16 (4 * r + w) j = iv 16 (4 * r + w) j) (h17 : ∀ w j, w < 4 → iv' 17 (4 * r + w) j = iv 17 (4 * r + w) j)
    (h113 : ∀ l, l < nl → iv' 11 l 3 = iv 11 l 3) (h114 : ∀ l k, l < nl → iv 11 l 4 = nI k → ∃ k', k' ≤ k ∧ iv' 11 l 4 = nI k') (h9 : ∀ l q, l < nl → rv 11 l 0 = some (8, q) → iv' 9 q 1 = iv 9 q 1) : ROOM A' iv' rv' nl' r := by
  obtain ⟨g1, g2, g3, g4, g5, g6, g7, n, g8, g9, g11, g12, g13, g14⟩ := hP
  refine ⟨hl _ _ g1, hl _ _ g2, hl _ _ g3, hl _ _ g4, (hr12 0).trans g5, (hr12 1).trans g6, hr14.trans g7, n, g8, (h12 2).trans g9, fun w hw => (hr13 w hw).trans (g11 w hw), fun w hw1 hw2 => hd w hw2 (g12 w hw1 hw2), fun w hw => (g13 w hw).to hl (hr16 w (by omega)) (fun j => h16 w j (by omega)), ?_⟩
  rcases g14 with a | ⟨l, a, n1, b, c⟩
  · exact Or.inl ((hr12 3).trans a)
  · exact Or.inr ⟨l, by omega, n1, (hr12 3).trans b, c.to (hr11 l a) h12 h14 h15 (h113 l a) (fun k => h114 l k a) (fun q => h9 l q a) (fun w j hw => h16 w j (by omega)) (fun w j hw => h17 w j (by omega))⟩
theorem CNT.to {iv iv' : IVt} {np nr nl : Nat} (h : CNT iv np nr nl) (h0 : ∀ j, j ≠ 7 → iv' 0 0 j = iv 0 0 j) : CNT iv' np nr nl := by
  obtain ⟨g1, g2, g3, g4, g5, g6⟩ := h
  exact ⟨(h0 1 (by decide)).trans g1, g2, (h0 3 (by decide)).trans g3, g4, (h0 5 (by decide)).trans g5, g6⟩
theorem TOP.rvto {A : Adr} {rv rv' : RVt} {np nr nl : Nat} (h : TOP A rv np nr nl) (hr : ∀ T j, T ≤ 4 → rv' T 0 j = rv T 0 j) : TOP A rv' np nr nl := by
  obtain ⟨g1, ⟨g2, g3, g4, g5⟩, g6, g7, g8, g9, g10⟩ := h
  exact ⟨g1, ⟨(hr 0 0 (by decide)).trans g2, (hr 0 2 (by decide)).trans g3, (hr 0 4 (by decide)).trans g4, (hr 0 6 (by decide)).trans g5⟩, fun i hi => (hr 1 i (by decide)).trans (g6 i hi), fun i hi => (hr 2 i (by decide)).trans (g7 i hi), fun i hi => (hr 3 i (by decide)).trans (g8 i hi), fun i hi => (hr 4 i (by decide)).trans (g9 i hi), g10⟩
/-- the invariant afterwards, where no object is new, but for lots and rooms -/
theorem INV.same {A : Adr} {iv iv' : IVt} {rv rv' : RVt} {np nr nl : Nat} (h : INV A iv rv np nr nl) (e0 : ∀ j, j ≠ 7 → iv' 0 0 j = iv 0 0 j) (e : ∀ T i j, T = 5 ∨ T = 6 ∨ T = 8 ∨ T = 9 → iv' T i j = iv T i j) (e7 : ∀ i, i < np → ∀ k, ∃ c, c ≤ 7 ∧ iv' 7 i k = nI c) (er : ∀ T i j, T ≠ 12 → rv' T i j = rv T i j) (eL : ∀ i, i < nl → LREL A iv' rv' nr i) (eR : ∀ r, r < 4 → ROOM A iv' rv' nl r) : INV A iv' rv' np nr nl := by
  obtain ⟨g1, g2, g3, g4, g5, g6, g7⟩ := h
  exact ⟨g1, g2.rvto (fun T j hT => er _ _ _ (by omega)), g3.to e0, fun i hi => (g4 i hi).to (fun _ _ q => q) (er _ _ _ (by decide)) (er _ _ _ (by decide)) (fun j => e _ _ _ (by decide)) (fun j => e _ _ _ (by decide)) (e7 i hi), fun i hi => (g5 i hi).to (fun _ _ q => q) (er _ _ _ (by decide)) (er _ _ _ (by decide)) (e _ _ _ (by decide)) (e _ _ _ (by decide)) (e _ _ _ (by decide)), eL, eR⟩
/-- an int of another tag doesn't matter -/
theorem INV.scr {A : Adr} {iv : IVt} {rv : RVt} {np nr nl T i j : Nat} {x : Int32} (h : INV A iv rv np nr nl) (hT : T = 18 ∨ T = 19) : INV A (u3 iv T i j x) rv np nr nl := by
  have e : ∀ T' i' j', T' ≤ 17 → u3 iv T i j x T' i' j' = iv T' i' j' := fun T' i' j' q => u3_T (by omega)
  refine h.same (fun j _ => e _ _ _ (by decide)) (fun T i j q => e _ _ _ (by omega)) (fun i hi k => ?_) (fun _ _ _ _ => rfl) (fun i hi => (h.2.2.2.2.2.1 i hi).to (Nat.le_refl _) (fun _ _ q => q) rfl (fun _ => e _ _ _ (by decide))) (fun r hr => (h.2.2.2.2.2.2 r hr).to (Nat.le_refl _) (fun _ _ q => q) (fun _ _ q => q) (fun _ => rfl) rfl (fun _ _ => rfl) (fun _ _ => rfl) (fun _ _ => rfl) ?_ ?_ ?_ ?_ ?_ ?_ (fun l k _ hk => ⟨k, Nat.le_refl _, (e _ _ _ (by decide)).trans hk⟩) ?_)
  · exact (h.2.2.2.1 i hi).col (fun j => e _ _ _ (by decide)) k
  all_goals intros
  all_goals exact e _ _ _ (by decide)
