/-! the law's calls, on heaps by keys; moves of a repeat -/
theorem tl {x : Int32} : x.toInt64.toInt32 = x := by simp
theorem lrm_l {a b : Nat} (ha : a < 2 ^ 31) (h0 : 0 < b) (hb : b < 2 ^ 31) : lrm (lN a) (lN b) = lN (a % b) := pk_lRem (by omega) h0 (by omega)
theorem irm_n {a b : Nat} (ha : a < 2 ^ 31) (h0 : 0 < b) (hb : b < 2 ^ 31) : irm (nI a) (nI b) = nI (a % b) := pk_rem ha h0 hb
theorem hk1 {E : String} {k : Int64} {l : List (String × Int64)} {f : Int64 → Prop} : wcP ((E, k) :: l) E f = f k := if_pos rfl
theorem hk2 {E E1 : String} {k k1 : Int64} {l : List (String × Int64)} {f : Int64 → Prop} (h : E ≠ E1) : wcP ((E1, k1) :: (E, k) :: l) E f = f k := (if_neg h).trans hk1
theorem hk3 {E E1 E2 : String} {k k1 k2 : Int64} {l : List (String × Int64)} {f : Int64 → Prop} (h : E ≠ E1) (h2 : E ≠ E2) : wcP ((E1, k1) :: (E2, k2) :: (E, k) :: l) E f = f k := (if_neg h).trans (hk2 h2)
section PC
variable {A : Adr} {iv : IVt} {rv : RVt} {ov : Nat → Int64} {z np nr nl : Nat}
theorem q_is {K : Prop} (hI : INV A iv rv np nr nl) (k : K) : isP (z, hv A iv rv ov) (A.1 0 0) 7 K := by
  obtain ⟨⟨t0, -⟩, -⟩ := id hI.2.1
  exact ⟨⟨_, (hv_at hI.1 t0).trans (congrArg some (cont_O (by rfl) (by decide)))⟩, k⟩
theorem q_ok {cs : List (String × Int64)} {X : Rs Int32} {v : Int32} {h' : hpT} {Q : Int64 → hpT → Prop} (hI : INV A iv rv np nr nl) (e : X = rtv v h') (q : Q v.toInt64 h') : isP (z, hv A iv rv ov) (A.1 0 0) 7 (wrP cs X Q) := q_is hI (by rw [e]; exact q)
theorem q_th {cs : List (String × Int64)} {X : Rs Int32} {E : String} {k : Int64} {iv2 : IVt} {Q : Int64 → hpT → Prop} (hI : INV A iv rv np nr nl) (hO : OKA A rv z) (e : X = tht E (z, hv A iv2 rv ov)) (hk : ∀ f, wcP cs E f = f k) (q : ∀ z', OKA A rv z' → Q k (z', hv A iv2 rv ov)) : isP (z, hv A iv rv ov) (A.1 0 0) 7 (wrP cs X Q) := q_is hI (by
  rw [e]
  show wcP cs E _
  rw [hk]
  exact fun z' hz => q z' (oka_of hI.1 hO.2.2 hz))
theorem q_lost {K : Int32 → hpT → Prop} (hI : INV A iv rv np nr nl) (q : K (iv 0 0 7) (z, hv A iv rv ov)) : isP (z, hv A iv rv ov) (A.1 0 0) 7 (cP (F_X7_lost (A.1 0 0) (z, hv A iv rv ov)) K) := q_is hI (by rw [k_lost hI]; exact q)
theorem q_ald {T i k : Nat} {K : Int32 → Prop} (hA : IN A) (hl : A.2.2 T i = true) (hk : kc T = 10) (hj : k < kn T) (q : K (iv T i k)) : aldP (z, hv A iv rv ov) (A.1 T i) (nI k) K := by
  unfold aldP
  rw [ald_hv hA hl hk hj]
  exact q
theorem q_ast {T i k : Nat} {x : Int32} {K : hpT → Prop} (hA : IN A) (hl : A.2.2 T i = true) (hk : kc T = 10) (hj : k < kn T) (q : K (z, hv A (u3 iv T i k x) rv ov)) : astP (z, hv A iv rv ov) (A.1 T i) (nI k) x K := by
  unfold astP
  rw [ast_hv hA hl hk hj]
  exact q
theorem q_draw {L k : Nat} {xs : Nat → Int32} {K : Int32 → Prop} (hL : L < 2 ^ 31) (hk : k < 2 ^ 31) (q : ∀ j, j < 2 ^ 31 → K (nI j)) : drawP L xs (nI k) K := by
  unfold drawP
  split
  · obtain ⟨j, h1, h2⟩ := pk_andE (15595823 * nI k + 11783) (m := 2147483647) 31 (by decide)
    rw [h2]
    exact q j h1
  · rename_i h
    have hkL : k < L := Classical.byContradiction fun w => h (nI_le (by omega) hk)
    obtain ⟨j, h1, h2⟩ := pk_andE (xs (nI k).toNatClampNeg) (m := 2147483647) 31 (by decide)
    exact ⟨pk_in k L hkL rfl hL, by rw [h2]; exact q j h1⟩
theorem k_rep0 {j w hh s : Nat} (h : INV A iv rv np nr nl) (hj : j < np) (hP : PAT A iv rv j w hh s) : F_X7_repeat (A.1 0 0) (nI j) 0 (z, hv A iv rv ov) = rtv (nI (rcM w s)) (z, hv A iv rv ov) := k_repeat (b := false) h hj hP
theorem k_rep1 {j w hh s : Nat} (h : INV A iv rv np nr nl) (hj : j < np) (hP : PAT A iv rv j w hh s) : F_X7_repeat (A.1 0 0) (nI j) 1 (z, hv A iv rv ov) = rtv (nI (rrM hh s)) (z, hv A iv rv ov) := k_repeat (b := true) h hj hP
theorem k_anew0 {j w hh s r : Nat} (h : INV A iv rv np nr nl) (hj : j < np) (hP : PAT A iv rv j w hh s) (hL : LEAST (MOVES (pcN (cF iv j w) w hh s) (rcM w s) (rrM hh s) false) r) : F_X7_repeatAnew (A.1 0 0) (nI j) 0 (z, hv A iv rv ov) = rtv (nI r) (z, hv A iv rv ov) := k_anew (b := false) h hj hP hL
theorem k_anew1 {j w hh s r : Nat} (h : INV A iv rv np nr nl) (hj : j < np) (hP : PAT A iv rv j w hh s) (hL : LEAST (MOVES (pcN (cF iv j w) w hh s) (rcM w s) (rrM hh s) true) r) : F_X7_repeatAnew (A.1 0 0) (nI j) 1 (z, hv A iv rv ov) = rtv (nI r) (z, hv A iv rv ov) := k_anew (b := true) h hj hP hL
end PC
/-! moves in one direction -/
def P1 (e : Nat → Nat → Int32) (C R k : Nat) : Prop := ∀ x, x < C → ∀ y, y < R → e x y = e ((x + k) % C) y
theorem P1_c {c : Nat → Nat → Int32} {C R k : Nat} : STAY c C R k 0 ↔ P1 c C R k := by
  refine ⟨fun h x hx y hy => ?_, fun h x hx y hy => ?_⟩
  · have q := h x hx y hy
    unfold EQC at q
    rwa [Nat.add_zero, Nat.mod_eq_of_lt hy] at q
  · unfold EQC
    rw [Nat.add_zero, Nat.mod_eq_of_lt hy]
    exact h x hx y hy
theorem P1_r {c : Nat → Nat → Int32} {C R k : Nat} : STAY c C R 0 k ↔ P1 (fun a b => c b a) R C k := by
  refine ⟨fun h y hy x hx => ?_, fun h x hx y hy => ?_⟩
  · have q := h x hx y hy
    unfold EQC at q
    rwa [Nat.add_zero, Nat.mod_eq_of_lt hx] at q
  · unfold EQC
    rw [Nat.add_zero, Nat.mod_eq_of_lt hx]
    exact h y hy x hx
theorem P1_mul {e : Nat → Nat → Int32} {C R k : Nat} (h : P1 e C R k) : ∀ n, P1 e C R (k * n) := by
  intro n
  induction n with
  | zero =>
    intro x hx y hy
    rw [Nat.mul_zero, Nat.add_zero, Nat.mod_eq_of_lt hx]
  | succ n ih =>
    intro x hx y hy
    rw [ih x hx y hy, h _ (Nat.mod_lt _ (by omega)) y hy, Nat.mod_add_mod, Nat.add_assoc, ← Nat.mul_succ]
theorem P1_dvd {e : Nat → Nat → Int32} {C R r : Nat} (h1 : 1 ≤ r) (h : P1 e C R r) (hn : ∀ k, 1 ≤ k → k < r → ¬ P1 e C R k) : C % r = 0 := by
  refine Classical.byContradiction fun hg => ?_
  have hg2 := Nat.mod_lt C (show 0 < r by omega)
  refine hn (C % r) (by omega) hg2 (fun x hx y hy => ?_)
  rw [P1_mul h (C / r) _ (Nat.mod_lt (x + C % r) (by omega)) y hy, Nat.mod_add_mod, Nat.add_assoc, Nat.add_comm (C % r), Nat.div_add_mod, Nat.add_mod_right, Nat.mod_eq_of_lt hx]
theorem least0 {c : Nat → Nat → Int32} {C R r : Nat} (h : LEAST (MOVES c C R false) r) (hC : 0 < C) : 1 ≤ r ∧ STAY c C R r 0 ∧ C % r = 0 ∧ r ≤ C := by
  obtain ⟨a1, a2, a3⟩ := h
  have a2' : STAY c C R r 0 := a2
  have hd : C % r = 0 := P1_dvd a1 (P1_c.mp a2') (fun k b1 b2 q => a3 k b1 b2 (show STAY c C R k 0 from P1_c.mpr q))
  exact ⟨a1, a2', hd, Nat.le_of_dvd hC (Nat.dvd_of_mod_eq_zero hd)⟩
theorem least1 {c : Nat → Nat → Int32} {C R r : Nat} (h : LEAST (MOVES c C R true) r) (hC : 0 < R) : 1 ≤ r ∧ STAY c C R 0 r ∧ R % r = 0 ∧ r ≤ R := by
  obtain ⟨a1, a2, a3⟩ := h
  have a2' : STAY c C R 0 r := a2
  have hd : R % r = 0 := P1_dvd a1 (P1_r.mp a2') (fun k b1 b2 q => a3 k b1 b2 (show STAY c C R 0 k from P1_r.mpr q))
  exact ⟨a1, a2', hd, Nat.le_of_dvd hC (Nat.dvd_of_mod_eq_zero hd)⟩
/-! small numbers with a sign -/
def SM (x : Int32) (n : Nat) : Prop := -(n : Int) ≤ x.toInt ∧ x.toInt ≤ (n : Int)
theorem sm_add {x : Int32} {k : Nat} (hx : SM x 100) (hk : k ≤ 100) : (x + nI k).toInt = x.toInt + k := by
  have h := nI_toInt (n := k) (by omega)
  unfold SM at hx
  rw [Int32.toInt_add, h]
  exact Int.bmod_eq_of_le (by omega) (by omega)
theorem sm_sub {x : Int32} {k : Nat} (hx : SM x 100) (hk : k ≤ 100) : (x - nI k).toInt = x.toInt - k := by
  have h := nI_toInt (n := k) (by omega)
  unfold SM at hx
  rw [Int32.toInt_sub, h]
  exact Int.bmod_eq_of_le (by omega) (by omega)
theorem wm_add {x : Int32} {C : Nat} (hx : SM x 100) (hC : C ≤ 100) : wm (x + nI C) C = wm x C := by
  unfold wm
  rw [sm_add hx hC, Int.add_emod_right]
theorem wm_sub {x : Int32} {C : Nat} (hx : SM x 100) (hC : C ≤ 100) : wm (x - nI C) C = wm x C := by
  unfold wm
  rw [sm_sub hx hC, Int.sub_emod_right]
theorem wm_move {x : Int32} {C k : Nat} (hx : SM x 100) (hk : k ≤ 100) (h0 : 0 < C) : wm (x + nI k) C = (wm x C + k) % C := by
  have h1 := wm_int (v := x + nI k) h0
  have h2 := wm_int (v := x) h0
  apply Int.ofNat_inj.mp
  rw [h1, sm_add hx hk, Int.natCast_emod, Int.natCast_add, h2, Int.emod_add_emod]
theorem wm_back {x : Int32} {C k : Nat} (hx : SM x 50) (hk : k ≤ 50) (h0 : 0 < C) : (wm (x - nI k) C + k) % C = wm x C := by
  have hs := sm_sub (x := x) (k := k) ⟨by have := hx.1; omega, by have := hx.2; omega⟩ (by omega)
  have hx' : SM (x - nI k) 100 := by
    unfold SM at *
    rw [hs]
    omega
  have h := wm_move hx' (show k ≤ 100 by omega) h0
  rw [Int32.sub_add_cancel] at h
  exact h.symm
section PCL
variable {f : Nat → Int32} {w h s : Nat} {a b : Int32} {k : Nat}
theorem pc_wide (hw : 0 < w) (hh : 0 < h) (ha : SM a 50) (hC : rcM w s ≤ 10) : pcol f w h s (a + nI (rcM w s)) b = pcol f w h s a b := by
  rw [pcol_N hw hh, pcol_N hw hh, wm_add ⟨by have := ha.1; omega, by have := ha.2; omega⟩ (by omega)]
theorem pc_high (hw : 0 < w) (hh : 0 < h) (hb : SM b 50) (hR : rrM h s ≤ 10) : pcol f w h s a (b - nI (rrM h s)) = pcol f w h s a b := by
  rw [pcol_N hw hh, pcol_N hw hh, wm_sub ⟨by have := hb.1; omega, by have := hb.2; omega⟩ (by omega)]
theorem pc_across (hw : 0 < w) (hh : 0 < h) (ha : SM a 50) (hk : k ≤ 10) (hS : STAY (pcN (fun a b => f (b * w + a)) w h s) (rcM w s) (rrM h s) k 0) : pcol f w h s (a - nI k) b = pcol f w h s a b := by
  have c1 := rcM_pos (w := w) (s := s) hw
  have r1 := rrM_pos (w := h) (s := s) hh
  rw [pcol_N hw hh, pcol_N hw hh, P1_c.mp hS _ (wm_lt c1) _ (wm_lt r1), wm_back ha (by omega) c1]
theorem pc_along (hw : 0 < w) (hh : 0 < h) (hb : SM b 50) (hk : k ≤ 10) (hS : STAY (pcN (fun a b => f (b * w + a)) w h s) (rcM w s) (rrM h s) 0 k) : pcol f w h s a (b + nI k) = pcol f w h s a b := by
  have c1 := rcM_pos (w := w) (s := s) hw
  have r1 := rrM_pos (w := h) (s := s) hh
  have q := P1_r.mp hS _ (wm_lt (v := b) r1) _ (wm_lt (v := a) c1)
  rw [pcol_N hw hh, pcol_N hw hh, wm_move ⟨by have := hb.1; omega, by have := hb.2; omega⟩ (by omega) r1]
  exact q.symm
theorem pc_cell {X Y : Nat} (hX : X < w) (hY : Y < h) (hw : w ≤ 5) (hh : h ≤ 5) : pcol f w h s (nI X) (nI Y) = f (Y * w + X) := by
  have c1 : w ≤ rcM w s := by unfold rcM; split <;> omega
  have r1 : h ≤ rrM h s := by unfold rrM; split <;> omega
  have c2 := rcM_le (w := w) (s := s) hw
  have r2 := rrM_le (w := h) (s := s) hh
  have e1 : decide (w ≤ X) = false := decide_eq_false (by omega)
  have e2 : decide (h ≤ Y) = false := decide_eq_false (by omega)
  rw [pcol_N (by omega) (by omega), wm_small (show X < rcM w s by omega) (by omega), wm_small (show Y < rrM h s by omega) (by omega)]
  unfold pcN
  rw [e1, e2, Nat.mod_eq_of_lt hX, Nat.mod_eq_of_lt hY]
  unfold sx sy
  simp
end PCL
