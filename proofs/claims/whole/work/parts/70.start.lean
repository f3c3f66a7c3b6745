/-! a new object: the heap after both constructors -/
def KL : List (Nat × Nat) := [(0, 0), (1, 0), (2, 0), (3, 0), (4, 0), (12, 0), (13, 0), (14, 0), (15, 0), (12, 1), (13, 1), (14, 1), (15, 1), (12, 2), (13, 2), (14, 2), (15, 2), (12, 3), (13, 3), (14, 3), (15, 3), (20, 0), (21, 0), (22, 0), (23, 0), (24, 0), (25, 0), (26, 0), (27, 0), (28, 0), (29, 0), (30, 0), (31, 0), (32, 0), (33, 0), (34, 0), (35, 0), (36, 0), (37, 0), (38, 0), (39, 0), (40, 0), (41, 0), (18, 0)]
def ofs : List (Nat × Nat) → Nat → Nat → Nat
  | [], _, _ => 0
  | a :: l, T, i => if T = a.1 ∧ i = a.2 then 0 else ofs l T i + 1
theorem ofs_get : ∀ (l : List (Nat × Nat)) (T i : Nat), ofs l T i < l.length → l.getD (ofs l T i) (99, 99) = (T, i)
  | [], _, _, h => absurd h (Nat.not_lt_zero _)
  | a :: l, T, i, h => by
    unfold ofs at h ⊢
    by_cases q : T = a.1 ∧ i = a.2
    · rw [if_pos q, q.1, q.2]
      rfl
    · rw [if_neg q] at h ⊢
      rw [List.getD_cons_succ]
      exact ofs_get l T i (by simpa using h)
def off (T i : Nat) : Nat := ofs KL T i
def liv (n T i : Nat) : Bool := decide (off T i < n)
def ad (z0 T i : Nat) : Nat := z0 + off T i
def AS (z0 n : Nat) : Adr := (ad z0, fun b => KL.getD (b - z0) (99, 99), liv n)
theorem off_get {T i : Nat} (h : off T i < 44) : KL.getD (off T i) (99, 99) = (T, i) := ofs_get KL T i h
theorem in_st {z0 n : Nat} (hn : n ≤ 44) : IN (AS z0 n) := by
  intro T i hl
  have h1 : off T i < n := of_decide_eq_true hl
  show KL.getD (z0 + off T i - z0) (99, 99) = (T, i)
  rw [Nat.add_sub_cancel_left]
  exact off_get (by omega)
theorem liv_k {T i : Nat} (h : liv 44 T i = true) : ∃ k, k < 44 ∧ KL.getD k (99, 99) = (T, i) := ⟨off T i, of_decide_eq_true h, off_get (of_decide_eq_true h)⟩
theorem dead_T {T i : Nat} (hT : ∀ k, k < 44 → (KL.getD k (99, 99)).1 ≠ T) : liv 44 T i = false := by
  cases h : liv 44 T i with
  | false => rfl
  | true =>
    obtain ⟨k, h1, h2⟩ := liv_k h
    exact absurd (by rw [h2]) (hT k h1)
section SS
variable {z0 n N T i j ci : Nat} {iv : IVt} {rv : RVt} {ov : Nat → Int64} {α : Type}
theorem push_st {e : va_E} (hn : n < 44) (ho : off T i = n) (he : cont (ad z0) iv rv ov T i = e) : hpush (z0 + n, hv (AS z0 n) iv rv ov) e = (z0 + (n + 1), hv (AS z0 (n + 1)) iv rv ov) := by
  unfold hpush
  refine congrArg (Prod.mk (z0 + (n + 1))) (funext fun b => ?_)
  by_cases hb : b = z0 + n
  · have h1 := hv_at (iv := iv) (rv := rv) (ov := ov) (in_st (z0 := z0) (n := n + 1) (by omega)) (T := T) (i := i) (decide_eq_true (by rw [ho]; omega))
    have h2 : (AS z0 (n + 1)).1 T i = b := by
      rw [hb, ← ho]
      rfl
    rw [h2] at h1
    rw [h1]
    refine (if_pos hb).trans ?_
    rw [← he]
    rfl
  · refine (if_neg hb).trans ?_
    show hv (AS z0 n) iv rv ov b = hv (AS z0 (n + 1)) iv rv ov b
    unfold hv
    have e1 : ∀ m, ((AS z0 m).2.2 ((AS z0 m).2.1 b).1 ((AS z0 m).2.1 b).2 = true ∧ (AS z0 m).1 ((AS z0 m).2.1 b).1 ((AS z0 m).2.1 b).2 = b) ↔ (off (KL.getD (b - z0) (99, 99)).1 (KL.getD (b - z0) (99, 99)).2 < m ∧ z0 + off (KL.getD (b - z0) (99, 99)).1 (KL.getD (b - z0) (99, 99)).2 = b) := fun m => ⟨fun q => ⟨of_decide_eq_true q.1, q.2⟩, fun q => ⟨decide_eq_true q.1, q.2⟩⟩
    by_cases hc : off (KL.getD (b - z0) (99, 99)).1 (KL.getD (b - z0) (99, 99)).2 < n ∧ z0 + off (KL.getD (b - z0) (99, 99)).1 (KL.getD (b - z0) (99, 99)).2 = b
    · rw [if_pos ((e1 n).mpr hc), if_pos ((e1 (n + 1)).mpr ⟨by omega, hc.2⟩)]
      rfl
    · rw [if_neg (fun q => hc ((e1 n).mp q)), if_neg (fun q => hc (by
        have := (e1 (n + 1)).mp q
        omega))]
theorem newR_st {K : Nat → hpT → Rs α} {k : Nat} (hn : n < 44) (ho : off T i = n) (hk : kc T = 12 + k) (hk2 : kn T = N) (hr : ∀ j, rv T i j = none) : newR (z0 + n, hv (AS z0 n) iv rv ov) (2 + k) N K = K (ad z0 T i) (z0 + (n + 1), hv (AS z0 (n + 1)) iv rv ov) := by
  unfold newR
  rw [push_st (T := T) (i := i) hn ho (by
    rw [show ad z0 = (AS z0 n).1 from rfl, cont_R hk, hk2]
    simp only [hr]
    rfl)]
  show K (z0 + n) _ = K (z0 + off T i) _
  rw [ho]
theorem newI_st {K : Nat → hpT → Rs α} (hn : n < 44) (ho : off T i = n) (hk : kc T = 10) (hk2 : kn T = N) (hi : ∀ j, iv T i j = 0) : newI (z0 + n, hv (AS z0 n) iv rv ov) N K = K (ad z0 T i) (z0 + (n + 1), hv (AS z0 (n + 1)) iv rv ov) := by
  unfold newI
  rw [push_st (T := T) (i := i) hn ho (by
    rw [show ad z0 = (AS z0 n).1 from rfl, cont_I hk, hk2, show iv T i = fun _ => 0 from funext hi])]
  show K (z0 + n) _ = K (z0 + off T i) _
  rw [ho]
theorem contO_st {fs : List Value} (hk : kc T = ci) (hc : ci < 10) (hf : (fty ci).map (fun b => if b = true then Value.int 0 else Value.null) = fs) (hi : ∀ j, iv T i j = 0) (hr : ∀ j, rv T i j = none) : cont (ad z0) iv rv ov T i = oO ci fs := by
  rw [show ad z0 = (AS z0 0).1 from rfl, cont_O hk hc, ← hf, show iv T i = fun _ => 0 from funext hi, show rv T i = fun _ => none from funext hr]
  congr 1
  unfold flds
  refine List.ext_getElem? (fun k => ?_)
  rw [List.getElem?_mapIdx, List.getElem?_map]
  cases (fty ci)[k]? with
  | none => rfl
  | some b => cases b <;> rfl
theorem newO_st {K : Nat → hpT → Rs α} {fs : List Value} (hn : n < 44) (ho : off T i = n) (hk : kc T = ci) (hc : ci < 10) (hf : (fty ci).map (fun b => if b = true then Value.int 0 else Value.null) = fs) (hi : ∀ j, iv T i j = 0) (hr : ∀ j, rv T i j = none) : newO (z0 + n, hv (AS z0 n) iv rv ov) ci fs K = K (ad z0 T i) (z0 + (n + 1), hv (AS z0 (n + 1)) iv rv ov) := by
  unfold newO
  rw [push_st (T := T) (i := i) hn ho (contO_st hk hc hf hi hr)]
  show K (z0 + n) _ = K (z0 + off T i) _
  rw [ho]
variable {z T' i' : Nat}
theorem pfR_st {K : hpT → Rs α} (hn : n ≤ 44) (hl : off T i < n) (hk : kc T = ci) (hc : ci < 10) (hf : (fty ci)[j]? = some false) : pf (z, hv (AS z0 n) iv rv ov) (ad z0 T i) ci j (va_rf (some (ad z0 T' i'))) K = K (z, hv (AS z0 n) iv (u3 rv T i j (some (T', i'))) ov) := pfR_hv (A := AS z0 n) (in_st hn) (decide_eq_true hl) hk hc hf
theorem gfR_st {K : Option Nat → Rs α} (hn : n ≤ 44) (hl : off T i < n) (hk : kc T = ci) (hc : ci < 10) (hf : (fty ci)[j]? = some false) : gfR (z, hv (AS z0 n) iv rv ov) (ad z0 T i) ci j K = K (rfv (ad z0) (rv T i j)) := gfR_hv (A := AS z0 n) (in_st hn) (decide_eq_true hl) hk hc hf
theorem alenR_st {K : Int32 → Rs α} {k : Nat} (hn : n ≤ 44) (hl : off T i < n) (hk : kc T = 12 + k) (hk5 : k < 5) : alen (z, hv (AS z0 n) iv rv ov) (ad z0 T i) K = K (nI (kn T)) := alen_R (A := AS z0 n) (in_st hn) (decide_eq_true hl) hk hk5
theorem astR_st {K : hpT → Rs α} {k q : Nat} (hn : n ≤ 44) (hl : off T i < n) (hk : kc T = 12 + q) (hj : k < kn T) (hl' : off T' i' < n) (hk' : kc T' = ci) (hc : ci < 10) : astR (z, hv (AS z0 n) iv rv ov) (2 + q) ci (ad z0 T i) (nI k) (ad z0 T' i') K = K (z, hv (AS z0 n) iv (u3 rv T i k (some (T', i'))) ov) := astR_hv (A := AS z0 n) (in_st hn) (decide_eq_true hl) hk hj (decide_eq_true hl') hk' hc
def rvR (r : Nat) (rv : RVt) : RVt := u3 (u3 (u3 (u3 rv 12 r 0 (some (13, r))) 14 r 0 (some (15, r))) 12 r 1 (some (14, r))) 4 0 r (some (12, r))
theorem off_R : ∀ r, r < 4 → off 12 r = 5 + 4 * r ∧ off 13 r = 5 + 4 * r + 1 ∧ off 14 r = 5 + 4 * r + 1 + 1 ∧ off 15 r = 5 + 4 * r + 1 + 1 + 1 ∧ off 4 0 = 4 ∧ off 0 0 = 0 := by decide +kernel
/-- one room made -/
theorem room_st {r : Nat} (hr : r < 4) (h06 : rv 0 0 6 = some (4, 0)) (hi : ∀ T j, T = 12 ∨ T = 14 ∨ T = 15 → iv T r j = 0) (hz : ∀ T j, T = 12 ∨ T = 13 ∨ T = 14 → rv T r j = none) : F_X7_init_b41 (N + 1) (ad z0 0 0) (nI r) (z0 + (5 + 4 * r), hv (AS z0 (5 + 4 * r)) iv rv ov) = F_X7_init_b41 N (ad z0 0 0) (nI (r + 1)) (z0 + (5 + 4 * (r + 1)), hv (AS z0 (5 + 4 * (r + 1))) iv (rvR r rv) ov) := by
  obtain ⟨o1, o2, o3, o4, o5, o6⟩ := off_R r hr
  unfold F_X7_init_b41
  rw [gfR_st (T := 0) (i := 0) (by omega) (by omega) (by rfl) (by decide) (by rfl), h06, rfv_s, nn_s, alenR_st (T := 4) (i := 0) (k := 3) (by omega) (by omega) (by rfl) (by decide), show kn 4 = 4 from rfl, if_neg (nI_ge hr (by decide)), gfR_st (T := 0) (i := 0) (by omega) (by omega) (by rfl) (by decide) (by rfl), h06, rfv_s, newO_st (T := 12) (i := r) (by omega) o1 (by rfl) (by decide) (by rfl) (fun j => hi _ _ (by omega)) (fun j => hz _ _ (by omega))]
  unfold F_X5_init
  rw [newR_st (T := 13) (i := r) (k := 4) (by omega) o2 (by rfl) (by rfl) (fun j => hz _ _ (by omega)), pfR_st (by omega) (by omega) (by rfl) (by decide) (by rfl), newO_st (T := 14) (i := r) (by omega) o3 (by rfl) (by decide) (by rfl) (fun j => hi _ _ (by omega)) (fun j => by rw [u3_T (by decide)]; exact hz _ _ (by omega))]
  unfold F_X2_init
  rw [newI_st (T := 15) (i := r) (by omega) o4 (by rfl) (by rfl) (fun j => hi _ _ (by omega)), pfR_st (by omega) (by omega) (by rfl) (by decide) (by rfl), bnd_v, pfR_st (by omega) (by omega) (by rfl) (by decide) (by rfl), bnd_v, nn_s, astR_st (q := 3) (by omega) (by omega) (by rfl) (show r < 4 from hr) (by omega) (by rfl) (by decide), nI_1, show 5 + 4 * r + 1 + 1 + 1 + 1 = 5 + 4 * (r + 1) by omega]
  cases N <;> rfl
def iv0 : IVt := fun _ _ _ => 0
def rv0 : RVt := fun _ _ _ => none
def ov0 : Nat → Int64 := fun _ => 0
def rvP : RVt := u3 (u3 (u3 (u3 rv0 0 0 0 (some (1, 0))) 0 0 2 (some (2, 0))) 0 0 4 (some (3, 0))) 0 0 6 (some (4, 0))
def rv7 : RVt := rvR 3 (rvR 2 (rvR 1 (rvR 0 rvP)))
def rv8 : RVt := (u3 (u3 (u3 (u3 (u3 (u3 (u3 (u3 (u3 (u3 (u3 (u3 (u3 (u3 (u3 (u3 (u3 (u3 (u3 (u3 (u3 rv7 20 0 2 (some (21, 0))) 20 0 3 (some (22, 0))) 20 0 4 (some (23, 0))) 20 0 5 (some (24, 0))) 20 0 7 (some (25, 0))) 20 0 8 (some (26, 0))) 20 0 9 (some (27, 0))) 20 0 11 (some (28, 0))) 20 0 12 (some (29, 0))) 20 0 13 (some (30, 0))) 20 0 14 (some (31, 0))) 20 0 15 (some (32, 0))) 20 0 16 (some (33, 0))) 20 0 17 (some (34, 0))) 20 0 18 (some (35, 0))) 20 0 19 (some (36, 0))) 20 0 20 (some (37, 0))) 20 0 21 (some (38, 0))) 20 0 22 (some (39, 0))) 20 0 26 (some (40, 0))) 20 0 27 (some (41, 0)))
def iv8 : IVt := u3 (u3 (u3 (u3 iv0 35 0 0 (-1)) 35 0 1 (-1)) 35 0 2 (-1)) 35 0 3 (-1)
theorem rvR_o {r T i j : Nat} (h : T ≠ 4) (hi : T = 0 ∨ i ≠ r) : rvR r rv T i j = rv T i j := by
  unfold rvR
  rw [u3_T h, u3_n (by omega), u3_n (by omega), u3_n (by omega)]
theorem rvP_o {T i j : Nat} (h : T ≠ 0) : rvP T i j = none := by
  unfold rvP
  rw [u3_T h, u3_T h, u3_T h, u3_T h]
  rfl
/-- the class's constructor -/
theorem new7 : F_X7_init (ad z0 0 0) (z0 + 1, hv (AS z0 1) iv0 rv0 ov0) = some (.inl (), (z0 + 21, hv (AS z0 21) iv0 rv7 ov0)) := by
  unfold F_X7_init
  rw [newR_st (T := 1) (i := 0) (k := 0) (by decide) (by decide +kernel) (by rfl) (by rfl) (fun j => rfl), pfR_st (by decide) (by decide +kernel) (by rfl) (by decide) (by rfl), newR_st (T := 2) (i := 0) (k := 1) (by decide) (by decide +kernel) (by rfl) (by rfl) (fun j => by rw [u3_T (by decide)]; rfl), pfR_st (by decide) (by decide +kernel) (by rfl) (by decide) (by rfl), newR_st (T := 3) (i := 0) (k := 2) (by decide) (by decide +kernel) (by rfl) (by rfl) (fun j => by rw [u3_T (by decide), u3_T (by decide)]; rfl), pfR_st (by decide) (by decide +kernel) (by rfl) (by decide) (by rfl), newR_st (T := 4) (i := 0) (k := 3) (by decide) (by decide +kernel) (by rfl) (by rfl) (fun j => by rw [u3_T (by decide), u3_T (by decide), u3_T (by decide)]; rfl), pfR_st (by decide) (by decide +kernel) (by rfl) (by decide) (by rfl)]
  show F_X7_init_b41 (5 + 1) (ad z0 0 0) (nI 0) (z0 + (5 + 4 * 0), hv (AS z0 (5 + 4 * 0)) iv0 rvP ov0) = _
  rw [room_st (r := 0) (by decide) (by rfl) (fun _ _ _ => rfl) (fun T j hT => rvP_o (by omega))]
  show F_X7_init_b41 (4 + 1) (ad z0 0 0) (nI 1) (z0 + (5 + 4 * 1), hv (AS z0 (5 + 4 * 1)) iv0 (rvR 0 rvP) ov0) = _
  rw [room_st (r := 1) (by decide) (by rfl) (fun _ _ _ => rfl) (fun T j hT => by rw [rvR_o (by omega) (by omega)]; exact rvP_o (by omega))]
  show F_X7_init_b41 (3 + 1) (ad z0 0 0) (nI 2) (z0 + (5 + 4 * 2), hv (AS z0 (5 + 4 * 2)) iv0 (rvR 1 (rvR 0 rvP)) ov0) = _
  rw [room_st (r := 2) (by decide) (by rfl) (fun _ _ _ => rfl) (fun T j hT => by rw [rvR_o (by omega) (by omega), rvR_o (by omega) (by omega)]; exact rvP_o (by omega))]
  show F_X7_init_b41 (2 + 1) (ad z0 0 0) (nI 3) (z0 + (5 + 4 * 3), hv (AS z0 (5 + 4 * 3)) iv0 (rvR 2 (rvR 1 (rvR 0 rvP))) ov0) = _
  rw [room_st (r := 3) (by decide) (by rfl) (fun _ _ _ => rfl) (fun T j hT => by rw [rvR_o (by omega) (by omega), rvR_o (by omega) (by omega), rvR_o (by omega) (by omega)]; exact rvP_o (by omega))]
  show F_X7_init_b41 (1 + 1) (ad z0 0 0) (nI 4) (z0 + 21, hv (AS z0 21) iv0 rv7 ov0) = _
  unfold F_X7_init_b41
  rw [gfR_st (T := 0) (i := 0) (by decide) (by decide +kernel) (by rfl) (by decide) (by rfl), show rv7 0 0 6 = some (4, 0) from rfl, rfv_s, nn_s, alenR_st (T := 4) (i := 0) (k := 3) (by decide) (by decide +kernel) (by rfl) (by decide), if_pos (by decide)]
  rfl
theorem mstep {f : Nat} {K : hpT → Rs α} (hn : n < 44) (ho : off T 0 = n ∧ off 20 0 < n + 1) (hk : kc T = 10) (hk2 : kn T = N) (hi : ∀ j, iv T 0 j = 0) (hf : (fty 8)[f]? = some false) : (newI (z0 + n, hv (AS z0 n) iv rv ov) N fun a h => pf h (ad z0 20 0) 8 f (va_rf (some a)) K) = K (z0 + (n + 1), hv (AS z0 (n + 1)) iv (u3 rv 20 0 f (some (T, 0))) ov) := by
  rw [newI_st (T := T) (i := 0) hn ho.1 hk hk2 hi, pfR_st (T := 20) (i := 0) (by omega) ho.2 (by rfl) (by decide) hf]
theorem md_fact : ∀ p ∈ mfL, rv8 20 0 p.1 = some (p.2, 0) ∧ liv 43 p.2 0 = true ∧ liv 44 p.2 0 = true := by decide +kernel
theorem md43 : MD (AS z0 43) rv8 := ⟨in_st (by decide), (show liv 43 20 0 = true by decide +kernel), fun p hp => ⟨(md_fact p hp).1, (md_fact p hp).2.1⟩⟩
theorem md44 : MD (AS z0 44) rv8 := ⟨in_st (by decide), (show liv 44 20 0 = true by decide +kernel), fun p hp => ⟨(md_fact p hp).1, (md_fact p hp).2.2⟩⟩
theorem lot_st {r : Nat} (hr : r < 4) : F_X8_init_b174 (N + 1) (ad z0 20 0) (nI r) (z, hv (AS z0 43) iv rv8 ov) = F_X8_init_b174 N (ad z0 20 0) (nI (r + 1)) (z, hv (AS z0 43) (u3 iv 35 0 r (-1)) rv8 ov) := by
  have h1 := fun K => mR18 (K := K) (iv := iv) (ov := ov) (z := z) (α := Unit) (md43 (z0 := z0))
  have h2 := fun K => mS18 (K := K) (iv := iv) (ov := ov) (z := z) (α := Unit) (x := -1) (md43 (z0 := z0)) hr
  unfold F_X8_init_b174
  rw [if_neg (show ¬ (4 : Int32) ≤ nI r from nI_ge (b := 4) hr (by decide))]
  refine (h1 _).trans ?_
  rw [nn_s]
  refine (h2 _).trans ?_
  rw [nI_1]
  cases N <;> rfl
/-- the reference's constructor -/
theorem new8 : F_X8_init (ad z0 20 0) (z0 + 22, hv (AS z0 22) iv0 rv7 ov0) = some (.inl (), (z0 + 43, hv (AS z0 43) iv8 rv8 ov0)) := by
  unfold F_X8_init
  rw [mstep (T := 21) (n := 22) (by decide) (by decide +kernel) (by rfl) (by rfl) (fun _ => rfl) (by rfl)]
  rw [mstep (T := 22) (n := 23) (by decide) (by decide +kernel) (by rfl) (by rfl) (fun _ => rfl) (by rfl)]
  rw [mstep (T := 23) (n := 24) (by decide) (by decide +kernel) (by rfl) (by rfl) (fun _ => rfl) (by rfl)]
  rw [mstep (T := 24) (n := 25) (by decide) (by decide +kernel) (by rfl) (by rfl) (fun _ => rfl) (by rfl)]
  rw [mstep (T := 25) (n := 26) (by decide) (by decide +kernel) (by rfl) (by rfl) (fun _ => rfl) (by rfl)]
  rw [mstep (T := 26) (n := 27) (by decide) (by decide +kernel) (by rfl) (by rfl) (fun _ => rfl) (by rfl)]
  rw [mstep (T := 27) (n := 28) (by decide) (by decide +kernel) (by rfl) (by rfl) (fun _ => rfl) (by rfl)]
  rw [mstep (T := 28) (n := 29) (by decide) (by decide +kernel) (by rfl) (by rfl) (fun _ => rfl) (by rfl)]
  rw [mstep (T := 29) (n := 30) (by decide) (by decide +kernel) (by rfl) (by rfl) (fun _ => rfl) (by rfl)]
  rw [mstep (T := 30) (n := 31) (by decide) (by decide +kernel) (by rfl) (by rfl) (fun _ => rfl) (by rfl)]
  rw [mstep (T := 31) (n := 32) (by decide) (by decide +kernel) (by rfl) (by rfl) (fun _ => rfl) (by rfl)]
  rw [mstep (T := 32) (n := 33) (by decide) (by decide +kernel) (by rfl) (by rfl) (fun _ => rfl) (by rfl)]
  rw [mstep (T := 33) (n := 34) (by decide) (by decide +kernel) (by rfl) (by rfl) (fun _ => rfl) (by rfl)]
  rw [mstep (T := 34) (n := 35) (by decide) (by decide +kernel) (by rfl) (by rfl) (fun _ => rfl) (by rfl)]
  rw [mstep (T := 35) (n := 36) (by decide) (by decide +kernel) (by rfl) (by rfl) (fun _ => rfl) (by rfl)]
  rw [mstep (T := 36) (n := 37) (by decide) (by decide +kernel) (by rfl) (by rfl) (fun _ => rfl) (by rfl)]
  rw [mstep (T := 37) (n := 38) (by decide) (by decide +kernel) (by rfl) (by rfl) (fun _ => rfl) (by rfl)]
  rw [mstep (T := 38) (n := 39) (by decide) (by decide +kernel) (by rfl) (by rfl) (fun _ => rfl) (by rfl)]
  rw [mstep (T := 39) (n := 40) (by decide) (by decide +kernel) (by rfl) (by rfl) (fun _ => rfl) (by rfl)]
  rw [mstep (T := 40) (n := 41) (by decide) (by decide +kernel) (by rfl) (by rfl) (fun _ => rfl) (by rfl)]
  rw [mstep (T := 41) (n := 42) (by decide) (by decide +kernel) (by rfl) (by rfl) (fun _ => rfl) (by rfl)]
  show F_X8_init_b174 (999 + 1) (ad z0 20 0) (nI 0) (z0 + 43, hv (AS z0 43) iv0 rv8 ov0) = _
  rw [lot_st (by decide)]
  show F_X8_init_b174 (998 + 1) (ad z0 20 0) (nI 1) (z0 + 43, hv (AS z0 43) _ rv8 ov0) = _
  rw [lot_st (by decide)]
  show F_X8_init_b174 (997 + 1) (ad z0 20 0) (nI 2) (z0 + 43, hv (AS z0 43) _ rv8 ov0) = _
  rw [lot_st (by decide)]
  show F_X8_init_b174 (996 + 1) (ad z0 20 0) (nI 3) (z0 + 43, hv (AS z0 43) _ rv8 ov0) = _
  rw [lot_st (by decide)]
  show F_X8_init_b174 (995 + 1) (ad z0 20 0) (nI 4) (z0 + 43, hv (AS z0 43) iv8 rv8 ov0) = _
  unfold F_X8_init_b174
  rw [if_pos (by decide)]
  rfl
end SS
