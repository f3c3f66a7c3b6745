/-! a new object: the heap after the constructor, the invariant, the law from its start -/
def KL : List (Nat × Nat) := [(0, 0), (1, 0), (2, 0), (3, 0), (4, 0), (12, 0), (13, 0), (14, 0), (15, 0), (12, 1), (13, 1), (14, 1), (15, 1), (12, 2), (13, 2), (14, 2), (15, 2), (12, 3), (13, 3), (14, 3), (15, 3)]
def ofs : List (Nat × Nat) → Nat → Nat → Nat
  | [], _, _ => 0
  | a :: l, T, i => if T = a.1 ∧ i = a.2 then 0 else ofs l T i + 1
theorem ofs_get : ∀ (l : List (Nat × Nat)) (T i : Nat), ofs l T i < l.length → l.getD (ofs l T i) (99, 99) = (T, i)
  | [], _, _, h => absurd h (Nat.not_lt_zero _)
  | a :: l, T, i, h => by
    unfold ofs at h ⊢
    by_cases q : T = a.1 ∧ i = a.2
    · rw [if_pos q, q.1, q.2]
      rfl
    · rw [if_neg q] at h ⊢
      rw [List.getD_cons_succ]
      exact ofs_get l T i (by simpa using h)
def off (T i : Nat) : Nat := ofs KL T i
def liv (n T i : Nat) : Bool := decide (off T i < n)
def ad (z0 T i : Nat) : Nat := z0 + off T i
def AS (z0 n : Nat) : Adr := (ad z0, fun b => KL.getD (b - z0) (99, 99), liv n)
theorem off_get {T i : Nat} (h : off T i < 21) : KL.getD (off T i) (99, 99) = (T, i) := ofs_get KL T i h
theorem in_st {z0 n : Nat} (hn : n ≤ 21) : IN (AS z0 n) := by
  intro T i hl
  have h1 : off T i < n := of_decide_eq_true hl
  show KL.getD (z0 + off T i - z0) (99, 99) = (T, i)
  rw [Nat.add_sub_cancel_left]
  exact off_get (by omega)
theorem liv_k {T i : Nat} (h : liv 21 T i = true) : ∃ k, k < 21 ∧ KL.getD k (99, 99) = (T, i) := ⟨off T i, of_decide_eq_true h, off_get (of_decide_eq_true h)⟩
theorem dead_T {T i : Nat} (hT : ∀ k, k < 21 → (KL.getD k (99, 99)).1 ≠ T) : liv 21 T i = false := by
  cases h : liv 21 T i with
  | false => rfl
  | true =>
    obtain ⟨k, h1, h2⟩ := liv_k h
    exact absurd (by rw [h2]) (hT k h1)
section SS
variable {z0 n N T i j ci : Nat} {iv : IVt} {rv : RVt} {ov : Nat → Int64} {α : Type}
theorem push_st {e : va_E} (hn : n < 21) (ho : off T i = n) (he : cont (ad z0) iv rv ov T i = e) : hpush (z0 + n, hv (AS z0 n) iv rv ov) e = (z0 + (n + 1), hv (AS z0 (n + 1)) iv rv ov) := by
  unfold hpush
  refine congrArg (Prod.mk (z0 + (n + 1))) (funext fun b => ?_)
  by_cases hb : b = z0 + n
  · have h1 := hv_at (iv := iv) (rv := rv) (ov := ov) (in_st (z0 := z0) (n := n + 1) (by omega)) (T := T) (i := i) (decide_eq_true (by rw [ho]; omega))
    have h2 : (AS z0 (n + 1)).1 T i = b := by
      rw [hb, ← ho]
      rfl
    rw [h2] at h1
    rw [h1]
    refine (if_pos hb).trans ?_
    rw [← he]
    rfl
  · refine (if_neg hb).trans ?_
    show hv (AS z0 n) iv rv ov b = hv (AS z0 (n + 1)) iv rv ov b
    unfold hv
    have e1 : ∀ m, ((AS z0 m).2.2 ((AS z0 m).2.1 b).1 ((AS z0 m).2.1 b).2 = true ∧ (AS z0 m).1 ((AS z0 m).2.1 b).1 ((AS z0 m).2.1 b).2 = b) ↔ (off (KL.getD (b - z0) (99, 99)).1 (KL.getD (b - z0) (99, 99)).2 < m ∧ z0 + off (KL.getD (b - z0) (99, 99)).1 (KL.getD (b - z0) (99, 99)).2 = b) := fun m => ⟨fun q => ⟨of_decide_eq_true q.1, q.2⟩, fun q => ⟨decide_eq_true q.1, q.2⟩⟩
    by_cases hc : off (KL.getD (b - z0) (99, 99)).1 (KL.getD (b - z0) (99, 99)).2 < n ∧ z0 + off (KL.getD (b - z0) (99, 99)).1 (KL.getD (b - z0) (99, 99)).2 = b
    · rw [if_pos ((e1 n).mpr hc), if_pos ((e1 (n + 1)).mpr ⟨by omega, hc.2⟩)]
      rfl
    · rw [if_neg (fun q => hc ((e1 n).mp q)), if_neg (fun q => hc (by
        have := (e1 (n + 1)).mp q
        omega))]
theorem newR_st {K : Nat → hpT → Rs α} {k : Nat} (hn : n < 21) (ho : off T i = n) (hk : kc T = 12 + k) (hk2 : kn T = N) (hr : ∀ j, rv T i j = none) : newR (z0 + n, hv (AS z0 n) iv rv ov) (2 + k) N K = K (ad z0 T i) (z0 + (n + 1), hv (AS z0 (n + 1)) iv rv ov) := by
  unfold newR
  rw [push_st (T := T) (i := i) hn ho (by
    rw [show ad z0 = (AS z0 n).1 from rfl, cont_R hk, hk2]
    simp only [hr]
    rfl)]
  show K (z0 + n) _ = K (z0 + off T i) _
  rw [ho]
theorem newI_st {K : Nat → hpT → Rs α} (hn : n < 21) (ho : off T i = n) (hk : kc T = 10) (hk2 : kn T = N) (hi : ∀ j, iv T i j = 0) : newI (z0 + n, hv (AS z0 n) iv rv ov) N K = K (ad z0 T i) (z0 + (n + 1), hv (AS z0 (n + 1)) iv rv ov) := by
  unfold newI
  rw [push_st (T := T) (i := i) hn ho (by
    rw [show ad z0 = (AS z0 n).1 from rfl, cont_I hk, hk2, show iv T i = fun _ => 0 from funext hi])]
  show K (z0 + n) _ = K (z0 + off T i) _
  rw [ho]
theorem contO_st {fs : List Value} (hk : kc T = ci) (hc : ci < 10) (hf : (fty ci).map (fun b => if b = true then Value.int 0 else Value.null) = fs) (hi : ∀ j, iv T i j = 0) (hr : ∀ j, rv T i j = none) : cont (ad z0) iv rv ov T i = oO ci fs := by
  rw [show ad z0 = (AS z0 0).1 from rfl, cont_O hk hc, ← hf, show iv T i = fun _ => 0 from funext hi, show rv T i = fun _ => none from funext hr]
  congr 1
  unfold flds
  refine List.ext_getElem? (fun k => ?_)
  rw [List.getElem?_mapIdx, List.getElem?_map]
  cases (fty ci)[k]? with
  | none => rfl
  | some b => cases b <;> rfl
theorem newO_st {K : Nat → hpT → Rs α} {fs : List Value} (hn : n < 21) (ho : off T i = n) (hk : kc T = ci) (hc : ci < 10) (hf : (fty ci).map (fun b => if b = true then Value.int 0 else Value.null) = fs) (hi : ∀ j, iv T i j = 0) (hr : ∀ j, rv T i j = none) : newO (z0 + n, hv (AS z0 n) iv rv ov) ci fs K = K (ad z0 T i) (z0 + (n + 1), hv (AS z0 (n + 1)) iv rv ov) := by
  unfold newO
  rw [push_st (T := T) (i := i) hn ho (contO_st hk hc hf hi hr)]
  show K (z0 + n) _ = K (z0 + off T i) _
  rw [ho]
variable {z T' i' : Nat}
theorem pfR_st {K : hpT → Rs α} (hn : n ≤ 21) (hl : off T i < n) (hk : kc T = ci) (hc : ci < 10) (hf : (fty ci)[j]? = some false) : pf (z, hv (AS z0 n) iv rv ov) (ad z0 T i) ci j (va_rf (some (ad z0 T' i'))) K = K (z, hv (AS z0 n) iv (u3 rv T i j (some (T', i'))) ov) := pfR_hv (A := AS z0 n) (in_st hn) (decide_eq_true hl) hk hc hf
theorem gfR_st {K : Option Nat → Rs α} (hn : n ≤ 21) (hl : off T i < n) (hk : kc T = ci) (hc : ci < 10) (hf : (fty ci)[j]? = some false) : gfR (z, hv (AS z0 n) iv rv ov) (ad z0 T i) ci j K = K (rfv (ad z0) (rv T i j)) := gfR_hv (A := AS z0 n) (in_st hn) (decide_eq_true hl) hk hc hf
theorem alenR_st {K : Int32 → Rs α} {k : Nat} (hn : n ≤ 21) (hl : off T i < n) (hk : kc T = 12 + k) (hk5 : k < 5) : alen (z, hv (AS z0 n) iv rv ov) (ad z0 T i) K = K (nI (kn T)) := alen_R (A := AS z0 n) (in_st hn) (decide_eq_true hl) hk hk5
theorem astR_st {K : hpT → Rs α} {k q : Nat} (hn : n ≤ 21) (hl : off T i < n) (hk : kc T = 12 + q) (hj : k < kn T) (hl' : off T' i' < n) (hk' : kc T' = ci) (hc : ci < 10) : astR (z, hv (AS z0 n) iv rv ov) (2 + q) ci (ad z0 T i) (nI k) (ad z0 T' i') K = K (z, hv (AS z0 n) iv (u3 rv T i k (some (T', i'))) ov) := astR_hv (A := AS z0 n) (in_st hn) (decide_eq_true hl) hk hj (decide_eq_true hl') hk' hc
def rvR (r : Nat) (rv : RVt) : RVt := u3 (u3 (u3 (u3 rv 12 r 0 (some (13, r))) 14 r 0 (some (15, r))) 12 r 1 (some (14, r))) 4 0 r (some (12, r))
theorem off_R : ∀ r, r < 4 → off 12 r = 5 + 4 * r ∧ off 13 r = 5 + 4 * r + 1 ∧ off 14 r = 5 + 4 * r + 1 + 1 ∧ off 15 r = 5 + 4 * r + 1 + 1 + 1 ∧ off 4 0 = 4 ∧ off 0 0 = 0 := by decide +kernel
/-- one room made -/
theorem room_st {r : Nat} (hr : r < 4) (h06 : rv 0 0 6 = some (4, 0)) (hi : ∀ T j, T = 12 ∨ T = 14 ∨ T = 15 → iv T r j = 0) (hz : ∀ T j, T = 12 ∨ T = 13 ∨ T = 14 → rv T r j = none) : F_X7_init_b41 (N + 1) (ad z0 0 0) (nI r) (z0 + (5 + 4 * r), hv (AS z0 (5 + 4 * r)) iv rv ov) = F_X7_init_b41 N (ad z0 0 0) (nI (r + 1)) (z0 + (5 + 4 * (r + 1)), hv (AS z0 (5 + 4 * (r + 1))) iv (rvR r rv) ov) := by
  obtain ⟨o1, o2, o3, o4, o5, o6⟩ := off_R r hr
  unfold F_X7_init_b41
  rw [gfR_st (T := 0) (i := 0) (by omega) (by omega) (by rfl) (by decide) (by rfl), h06, rfv_s, nn_s, alenR_st (T := 4) (i := 0) (k := 3) (by omega) (by omega) (by rfl) (by decide), show kn 4 = 4 from rfl, if_neg (nI_ge hr (by decide)), gfR_st (T := 0) (i := 0) (by omega) (by omega) (by rfl) (by decide) (by rfl), h06, rfv_s, newO_st (T := 12) (i := r) (by omega) o1 (by rfl) (by decide) (by rfl) (fun j => hi _ _ (by omega)) (fun j => hz _ _ (by omega))]
  unfold F_X5_init
  rw [newR_st (T := 13) (i := r) (k := 4) (by omega) o2 (by rfl) (by rfl) (fun j => hz _ _ (by omega)), pfR_st (by omega) (by omega) (by rfl) (by decide) (by rfl), newO_st (T := 14) (i := r) (by omega) o3 (by rfl) (by decide) (by rfl) (fun j => hi _ _ (by omega)) (fun j => by rw [u3_T (by decide)]; exact hz _ _ (by omega))]
  unfold F_X2_init
  rw [newI_st (T := 15) (i := r) (by omega) o4 (by rfl) (by rfl) (fun j => hi _ _ (by omega)), pfR_st (by omega) (by omega) (by rfl) (by decide) (by rfl), bnd_v, pfR_st (by omega) (by omega) (by rfl) (by decide) (by rfl), bnd_v, nn_s, astR_st (q := 3) (by omega) (by omega) (by rfl) (show r < 4 from hr) (by omega) (by rfl) (by decide), nI_1, show 5 + 4 * r + 1 + 1 + 1 + 1 = 5 + 4 * (r + 1) by omega]
  cases N <;> rfl
def iv0 : IVt := fun _ _ _ => 0
def rv0 : RVt := fun _ _ _ => none
def ov0 : Nat → Int64 := fun _ => 0
def rvP : RVt := u3 (u3 (u3 (u3 rv0 0 0 0 (some (1, 0))) 0 0 2 (some (2, 0))) 0 0 4 (some (3, 0))) 0 0 6 (some (4, 0))
def rv7 : RVt := rvR 3 (rvR 2 (rvR 1 (rvR 0 rvP)))
theorem rvR_o {r T i j : Nat} (h : T ≠ 4) (hi : T = 0 ∨ i ≠ r) : rvR r rv T i j = rv T i j := by
  unfold rvR
  rw [u3_T h, u3_n (by omega), u3_n (by omega), u3_n (by omega)]
theorem rvP_o {T i j : Nat} (h : T ≠ 0) : rvP T i j = none := by
  unfold rvP
  rw [u3_T h, u3_T h, u3_T h, u3_T h]
  rfl
/-- the class's constructor -/
theorem new7 : F_X7_init (ad z0 0 0) (z0 + 1, hv (AS z0 1) iv0 rv0 ov0) = some (.inl (), (z0 + 21, hv (AS z0 21) iv0 rv7 ov0)) := by
  unfold F_X7_init
  rw [newR_st (T := 1) (i := 0) (k := 0) (by decide) (by decide +kernel) (by rfl) (by rfl) (fun j => rfl), pfR_st (by decide) (by decide +kernel) (by rfl) (by decide) (by rfl), newR_st (T := 2) (i := 0) (k := 1) (by decide) (by decide +kernel) (by rfl) (by rfl) (fun j => by rw [u3_T (by decide)]; rfl), pfR_st (by decide) (by decide +kernel) (by rfl) (by decide) (by rfl), newR_st (T := 3) (i := 0) (k := 2) (by decide) (by decide +kernel) (by rfl) (by rfl) (fun j => by rw [u3_T (by decide), u3_T (by decide)]; rfl), pfR_st (by decide) (by decide +kernel) (by rfl) (by decide) (by rfl), newR_st (T := 4) (i := 0) (k := 3) (by decide) (by decide +kernel) (by rfl) (by rfl) (fun j => by rw [u3_T (by decide), u3_T (by decide), u3_T (by decide)]; rfl), pfR_st (by decide) (by decide +kernel) (by rfl) (by decide) (by rfl)]
  show F_X7_init_b41 (5 + 1) (ad z0 0 0) (nI 0) (z0 + (5 + 4 * 0), hv (AS z0 (5 + 4 * 0)) iv0 rvP ov0) = _
  rw [room_st (r := 0) (by decide) (by rfl) (fun _ _ _ => rfl) (fun T j hT => rvP_o (by omega))]
  show F_X7_init_b41 (4 + 1) (ad z0 0 0) (nI 1) (z0 + (5 + 4 * 1), hv (AS z0 (5 + 4 * 1)) iv0 (rvR 0 rvP) ov0) = _
  rw [room_st (r := 1) (by decide) (by rfl) (fun _ _ _ => rfl) (fun T j hT => by rw [rvR_o (by omega) (by omega)]; exact rvP_o (by omega))]
  show F_X7_init_b41 (3 + 1) (ad z0 0 0) (nI 2) (z0 + (5 + 4 * 2), hv (AS z0 (5 + 4 * 2)) iv0 (rvR 1 (rvR 0 rvP)) ov0) = _
  rw [room_st (r := 2) (by decide) (by rfl) (fun _ _ _ => rfl) (fun T j hT => by rw [rvR_o (by omega) (by omega), rvR_o (by omega) (by omega)]; exact rvP_o (by omega))]
  show F_X7_init_b41 (2 + 1) (ad z0 0 0) (nI 3) (z0 + (5 + 4 * 3), hv (AS z0 (5 + 4 * 3)) iv0 (rvR 2 (rvR 1 (rvR 0 rvP))) ov0) = _
  rw [room_st (r := 3) (by decide) (by rfl) (fun _ _ _ => rfl) (fun T j hT => by rw [rvR_o (by omega) (by omega), rvR_o (by omega) (by omega), rvR_o (by omega) (by omega)]; exact rvP_o (by omega))]
  show F_X7_init_b41 (1 + 1) (ad z0 0 0) (nI 4) (z0 + 21, hv (AS z0 21) iv0 rv7 ov0) = _
  unfold F_X7_init_b41
  rw [gfR_st (T := 0) (i := 0) (by decide) (by decide +kernel) (by rfl) (by decide) (by rfl), show rv7 0 0 6 = some (4, 0) from rfl, rfv_s, nn_s, alenR_st (T := 4) (i := 0) (k := 3) (by decide) (by decide +kernel) (by rfl) (by decide), if_pos (by decide)]
  rfl
end SS
theorem dead_A {z0 T i : Nat} (hT : ∀ k, k < 21 → (KL.getD k (99, 99)).1 ≠ T) : (AS z0 21).2.2 T i = false := dead_T hT
theorem rfa_0 {A : Adr} : RFA A rv0 := fun _ _ _ _ _ h => by cases h
theorem rfa_7 {z0 : Nat} : RFA (AS z0 21) rv7 := by
  have l : ∀ T i, liv 21 T i = true → (AS z0 21).2.2 T i = true := fun _ _ h => h
  unfold rv7 rvR rvP
  repeat' first | exact rfa_0 | refine RFA.ref ?_ (l _ _ (by decide +kernel))
theorem oka_7 {z0 : Nat} : OKA (AS z0 21) rv7 (z0 + 21) := ⟨in_st (by decide), fun T i hl => by
  have h1 : off T i < 21 := of_decide_eq_true hl
  show z0 + off T i < z0 + 21
  omega, rfa_7⟩
theorem top_f1 : liv 21 0 0 = true ∧ liv 21 1 0 = true ∧ liv 21 2 0 = true ∧ liv 21 3 0 = true ∧ liv 21 4 0 = true := by decide +kernel
theorem top_f2 : rv7 0 0 0 = some (1, 0) ∧ rv7 0 0 2 = some (2, 0) ∧ rv7 0 0 4 = some (3, 0) ∧ rv7 0 0 6 = some (4, 0) := by decide +kernel
theorem top_f3 : (∀ i, i < 6 → rv7 1 0 i = none) ∧ (∀ i, i < 8 → rv7 2 0 i = none) ∧ (∀ i, i < 10 → rv7 3 0 i = none) ∧ ∀ i, i < 4 → rv7 4 0 i = some (12, i) := by decide +kernel
theorem key_T : ∀ k, k < 21 → (KL.getD k (99, 99)).1 ≠ 5 ∧ (KL.getD k (99, 99)).1 ≠ 6 ∧ (KL.getD k (99, 99)).1 ≠ 7 ∧ (KL.getD k (99, 99)).1 ≠ 8 ∧ (KL.getD k (99, 99)).1 ≠ 9 ∧ (KL.getD k (99, 99)).1 ≠ 10 ∧ (KL.getD k (99, 99)).1 ≠ 11 ∧ (KL.getD k (99, 99)).1 ≠ 16 ∧ (KL.getD k (99, 99)).1 ≠ 17 ∧ (KL.getD k (99, 99)).1 ≠ 18 ∧ (KL.getD k (99, 99)).1 ≠ 19 := by decide +kernel
theorem room_f : ∀ r, r < 4 → (liv 21 12 r = true ∧ liv 21 13 r = true ∧ liv 21 14 r = true ∧ liv 21 15 r = true ∧ rv7 12 r 0 = some (13, r) ∧ rv7 12 r 1 = some (14, r) ∧ rv7 14 r 0 = some (15, r)) ∧ rv7 12 r 3 = none ∧ ∀ w, w < 4 → rv7 13 r w = none := by decide +kernel
theorem inv_7 {z0 : Nat} : INV (AS z0 21) iv0 rv7 0 0 0 := by
  obtain ⟨a1, a2, a3, a4⟩ := top_f3
  refine ⟨in_st (by decide), ⟨top_f1, top_f2, fun i hi => (a1 i hi).trans (if_neg (Nat.not_lt_zero i)).symm, fun i hi => (a2 i hi).trans (if_neg (Nat.not_lt_zero i)).symm, fun i hi => (a3 i hi).trans (if_neg (Nat.not_lt_zero i)).symm, a4, fun i _ => ⟨dead_A (fun k hk => (key_T k hk).1), dead_A (fun k hk => (key_T k hk).2.1), dead_A (fun k hk => (key_T k hk).2.2.1)⟩, fun i _ => ⟨dead_A (fun k hk => (key_T k hk).2.2.2.1), dead_A (fun k hk => (key_T k hk).2.2.2.2.1), dead_A (fun k hk => (key_T k hk).2.2.2.2.2.1)⟩, fun i _ => dead_A (fun k hk => (key_T k hk).2.2.2.2.2.2.1)⟩, ⟨rfl, by decide, rfl, by decide, rfl, by decide⟩, fun i hi => absurd hi (Nat.not_lt_zero i), fun i hi => absurd hi (Nat.not_lt_zero i), fun i hi => absurd hi (Nat.not_lt_zero i), fun r hr => ?_⟩
  obtain ⟨⟨c1, c2, c3, c4, c5, c6, c7⟩, d3, d5⟩ := room_f r hr
  exact ⟨c1, c2, c3, c4, c5, c6, c7, 0, by decide, rfl, fun w hw => (d5 w hw).trans (if_neg (Nat.not_lt_zero w)).symm, fun w _ _ => ⟨dead_A (fun k hk => (key_T k hk).2.2.2.2.2.2.2.1), dead_A (fun k hk => (key_T k hk).2.2.2.2.2.2.2.2.1)⟩, fun w hw => absurd hw (Nat.not_lt_zero w), Or.inl d3⟩
theorem cP_i {α : Type} {X : Rs α} {K : α → hpT → Prop} {v : α} {h : hpT} (e : X = some (.inl v, h)) (k : K v h) : cP X K := by rw [e]; exact k
theorem law_start {z0 L : Nat} {xs : Nat → Int32} {Q : Int32 → hpT → Prop} (hL : L < 2 ^ 31) (hQ : ∀ h, Q 1 h) : P_L_law_b0 L xs (z0, fun _ => none) Q := by
  have e0 : (z0, (fun _ => none : Nat → Option va_E)) = (z0 + 0, hv (AS z0 0) iv0 rv0 ov0) := by
    refine congrArg (Prod.mk z0) (funext fun b => ?_)
    unfold hv
    exact (if_neg (fun q => by
      have h : off (KL.getD (b - z0) (99, 99)).1 (KL.getD (b - z0) (99, 99)).2 < 0 := of_decide_eq_true q.1
      exact Nat.not_lt_zero _ h)).symm
  have p1 : hpush (z0, fun _ => none) (oO 7 [.null, .int 0, .null, .int 0, .null, .int 0, .null, .int 0]) = (z0 + (0 + 1), hv (AS z0 (0 + 1)) iv0 rv0 ov0) := by
    rw [e0]
    exact push_st (T := 0) (i := 0) (by decide) (by decide +kernel) (contO_st (by rfl) (by decide) (by rfl) (fun _ => rfl) (fun _ => rfl))
  have hd18 : (AS z0 21).2.2 18 0 = false := dead_A (fun k hk => (key_T k hk).2.2.2.2.2.2.2.2.2.1)
  have hd19 : ∀ i, (AS z0 21).2.2 19 i = false := fun i => dead_A (fun k hk => (key_T k hk).2.2.2.2.2.2.2.2.2.2)
  have hF : FRK (AS z0 21) iv0 rv7 (alA (AS z0 21) 18 0 (z0 + 21)) (z3 iv0 18 0 0) (z3 rv7 18 0 none) := al_frk oka_7 hd18
  have l00 : (AS z0 21).2.2 0 0 = true := top_f1.1
  have hB : LB (ad z0 0 0) ((alA (AS z0 21) 18 0 (z0 + 21)).1 18 0) (alA (AS z0 21) 18 0 (z0 + 21)) (z3 iv0 18 0 0) (z3 rv7 18 0 none) 0 0 := ⟨inv_7.al oka_7 hd18 (Or.inl rfl), ⟨(hF.1 0 0 l00).2, rfl⟩, alA_l, fun i => (alA_ln (by omega)).trans (hd19 i), fun p hp => absurd hp (Nat.not_lt_zero p), fun q hq => absurd hq (Nat.not_lt_zero q), fun r hr => z3_n (by omega), z3_n (by omega)⟩
  unfold P_L_law_b0 newOP
  rw [p1]
  show cP (F_X7_init (ad z0 0 0) (z0 + 1, hv (AS z0 1) iv0 rv0 ov0)) _
  refine cP_i new7 ?_
  refine q_newI (T := 18) (i := 0) oka_7 hd18 (by rfl) (by rfl) ?_
  exact law18 hL hQ 4 0 _ _ _ _ (by decide) (by decide) hB (oka_7.al hd18)
