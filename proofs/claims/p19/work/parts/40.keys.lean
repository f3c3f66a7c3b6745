/-! THE HEAP BY KEYS: a key is a tag and a number; the tag says what lies there. A heap is given by its addresses (and back), by which keys live, by the ints, the references (keys) and the longs. -/
def kcL : List Nat := [7, 12, 13, 14, 15, 3, 0, 10, 4, 0, 10, 1, 5, 16, 2, 10, 6, 10, 10, 10]
def knL : List Nat := [0, 6, 8, 10, 4, 0, 0, 100, 0, 0, 100, 0, 0, 4, 0, 20, 0, 24, 6, 16]
def ftyL : List (List Bool) := [[true, true, false], [false, true, true, true, true], [false, true, true, true, true, true], [false, true, true, true], [true, false], [false, false, true, false, true], [true, false, true], [false, true, false, true, false, true, false, true]]
def kc (T : Nat) : Nat := kcL.getD T 99
def kn (T : Nat) : Nat := knL.getD T 0
def fty (ci : Nat) : List Bool := ftyL.getD ci []
theorem kn_lt (T : Nat) : kn T < 2 ^ 31 := by
  unfold kn
  by_cases h : T < 20
  · have h2 := List.all_eq_true.mp (show (List.range 20).all (fun T => decide (knL.getD T 0 < 2 ^ 31)) = true by decide +kernel) T (List.mem_range.mpr h)
    simpa using h2
  · rw [List.getD_eq_getElem?_getD, List.getElem?_eq_none (by simp [knL]; omega)]
    decide
abbrev IVt : Type := Nat → Nat → Nat → Int32
abbrev RVt : Type := Nat → Nat → Nat → Option (Nat × Nat)
abbrev Adr : Type := (Nat → Nat → Nat) × (Nat → Nat × Nat) × (Nat → Nat → Bool)
def u3 {α : Type} (f : Nat → Nat → Nat → α) (T i j : Nat) (x : α) : Nat → Nat → Nat → α := fun a b c => if a = T ∧ b = i ∧ c = j then x else f a b c
def z3 {α : Type} (f : Nat → Nat → Nat → α) (T i : Nat) (x : α) : Nat → Nat → Nat → α := fun a b c => if a = T ∧ b = i then x else f a b c
theorem u3_s {α : Type} {f : Nat → Nat → Nat → α} {T i j : Nat} {x : α} : u3 f T i j x T i j = x := if_pos ⟨rfl, rfl, rfl⟩
theorem u3_n {α : Type} {f : Nat → Nat → Nat → α} {T i j a b c : Nat} {x : α} (h : ¬ (a = T ∧ b = i ∧ c = j)) : u3 f T i j x a b c = f a b c := if_neg h
theorem u3_T {α : Type} {f : Nat → Nat → Nat → α} {T i j a b c : Nat} {x : α} (h : a ≠ T) : u3 f T i j x a b c = f a b c := if_neg (fun q => h q.1)
theorem z3_s {α : Type} {f : Nat → Nat → Nat → α} {T i c : Nat} {x : α} : z3 f T i x T i c = x := if_pos ⟨rfl, rfl⟩
theorem z3_n {α : Type} {f : Nat → Nat → Nat → α} {T i a b c : Nat} {x : α} (h : ¬ (a = T ∧ b = i)) : z3 f T i x a b c = f a b c := if_neg h
def rfv (ad : Nat → Nat → Nat) (r : Option (Nat × Nat)) : Option Nat := r.map fun q => ad q.1 q.2
theorem rfv_s {ad : Nat → Nat → Nat} {T i : Nat} : rfv ad (some (T, i)) = some (ad T i) := rfl
theorem rfv_n {ad : Nat → Nat → Nat} : rfv ad none = none := rfl
def flds (ad : Nat → Nat → Nat) (iv : Nat → Int32) (rv : Nat → Option (Nat × Nat)) (ty : List Bool) : List Value := ty.mapIdx fun j b => if b = true then Value.int (iv j) else va_rf (rfv ad (rv j))
theorem flds_at {ad : Nat → Nat → Nat} {iv : Nat → Int32} {rv : Nat → Option (Nat × Nat)} {ty : List Bool} {j : Nat} : (flds ad iv rv ty)[j]? = ty[j]?.map fun b => if b = true then Value.int (iv j) else va_rf (rfv ad (rv j)) := by
  unfold flds
  rw [List.getElem?_mapIdx]
theorem flds_len {ad : Nat → Nat → Nat} {iv : Nat → Int32} {rv : Nat → Option (Nat × Nat)} {ty : List Bool} : (flds ad iv rv ty).length = ty.length := by
  unfold flds
  rw [List.length_mapIdx]
theorem flds_to {ad ad' : Nat → Nat → Nat} {iv iv' : Nat → Int32} {rv rv' : Nat → Option (Nat × Nat)} {ty : List Bool} (h1 : ∀ j, iv' j = iv j) (h2 : ∀ j, rfv ad' (rv' j) = rfv ad (rv j)) : flds ad' iv' rv' ty = flds ad iv rv ty := by
  unfold flds
  congr 1
  funext j b
  rw [h1, h2]
theorem flds_set {ad : Nat → Nat → Nat} {iv iv' : Nat → Int32} {rv rv' : Nat → Option (Nat × Nat)} {ty : List Bool} {j : Nat} {v : Value} {b : Bool} (hj : ty[j]? = some b) (hv : v = if b = true then Value.int (iv' j) else va_rf (rfv ad (rv' j))) (h1 : ∀ k, k ≠ j → iv' k = iv k) (h2 : ∀ k, k ≠ j → rv' k = rv k) : (flds ad iv rv ty).set j v = flds ad iv' rv' ty := by
  refine List.ext_getElem? (fun k => ?_)
  rw [List.getElem?_set, flds_len]
  by_cases hk : j = k
  · subst hk
    have hl : j < ty.length := (List.getElem?_eq_some_iff.mp hj).1
    rw [if_pos rfl, if_pos hl, flds_at, hj, hv]
    rfl
  · rw [if_neg hk, flds_at, flds_at, h1 k (fun q => hk q.symm), h2 k (fun q => hk q.symm)]
def cont (ad : Nat → Nat → Nat) (iv : IVt) (rv : RVt) (ov : Nat → Int64) (T i : Nat) : va_E :=
  if kc T < 10 then oO (kc T) (flds ad (iv T i) (rv T i) (fty (kc T))) else if kc T = 10 then oI (kn T) (iv T i) else if kc T = 11 then oL (kn T) ov else oR (kc T - 10) (kn T) (fun j => rfv ad (rv T i j))
def hv (A : Adr) (iv : IVt) (rv : RVt) (ov : Nat → Int64) : Nat → Option va_E := fun b => if A.2.2 (A.2.1 b).1 (A.2.1 b).2 = true ∧ A.1 (A.2.1 b).1 (A.2.1 b).2 = b then some (cont A.1 iv rv ov (A.2.1 b).1 (A.2.1 b).2) else none
def IN (A : Adr) : Prop := ∀ T i, A.2.2 T i = true → A.2.1 (A.1 T i) = (T, i)
section KEYS
variable {A : Adr} {iv : IVt} {rv : RVt} {ov : Nat → Int64} {z T i j ci : Nat} {α : Type}
theorem hv_at (hA : IN A) (hl : A.2.2 T i = true) : hv A iv rv ov (A.1 T i) = some (cont A.1 iv rv ov T i) := by
  unfold hv
  rw [hA T i hl]
  exact if_pos ⟨hl, rfl⟩
theorem cont_O (hk : kc T = ci) (hc : ci < 10) : cont A.1 iv rv ov T i = oO ci (flds A.1 (iv T i) (rv T i) (fty ci)) := by
  unfold cont
  rw [hk, if_pos hc]
theorem cont_I (hk : kc T = 10) : cont A.1 iv rv ov T i = oI (kn T) (iv T i) := by
  unfold cont
  rw [hk, if_neg (by decide), if_pos rfl]
theorem cont_L (hk : kc T = 11) : cont A.1 iv rv ov T i = oL (kn T) ov := by
  unfold cont
  rw [hk, if_neg (by decide), if_neg (by decide), if_pos rfl]
theorem cont_R {k : Nat} (hk : kc T = 12 + k) : cont A.1 iv rv ov T i = oR (2 + k) (kn T) (fun j => rfv A.1 (rv T i j)) := by
  unfold cont
  rw [hk, if_neg (by omega), if_neg (by omega), if_neg (by omega)]
  congr 1
  omega
theorem gfI_hv {K : Int32 → Rs α} (hA : IN A) (hl : A.2.2 T i = true) (hk : kc T = ci) (hc : ci < 10) (hf : (fty ci)[j]? = some true) : gfI (z, hv A iv rv ov) (A.1 T i) ci j K = K (iv T i j) := by
  unfold gfI
  simp only [hv_at hA hl, cont_O hk hc, oO, if_true, flds_at, hf, Option.map]
theorem gfR_hv {K : Option Nat → Rs α} (hA : IN A) (hl : A.2.2 T i = true) (hk : kc T = ci) (hc : ci < 10) (hf : (fty ci)[j]? = some false) : gfR (z, hv A iv rv ov) (A.1 T i) ci j K = K (rfv A.1 (rv T i j)) := by
  unfold gfR
  simp only [hv_at hA hl, cont_O hk hc, oO, if_true, flds_at, hf, Option.map]
  cases rv T i j with
  | none => simp [rfv, va_rf]
  | some q => simp [rfv, va_rf]
theorem isO_hv {K : Rs α} (hA : IN A) (hl : A.2.2 T i = true) (hk : kc T = ci) (hc : ci < 10) : isO (z, hv A iv rv ov) (A.1 T i) ci K = K := by
  unfold isO
  simp only [hv_at hA hl, cont_O hk hc, oO, if_true]
/-- a store at a key: the heap afterwards -/
theorem hset_hv {e : va_E} {iv' : IVt} {rv' : RVt} {ov' : Nat → Int64} (hA : IN A) (hl : A.2.2 T i = true) (he : cont A.1 iv' rv' ov' T i = e) (hne : ∀ T' i', ¬ (T' = T ∧ i' = i) → A.2.2 T' i' = true → cont A.1 iv' rv' ov' T' i' = cont A.1 iv rv ov T' i') : hset (z, hv A iv rv ov) (A.1 T i) e = (z, hv A iv' rv' ov') := by
  unfold hset
  refine congrArg (Prod.mk z) (funext fun b => ?_)
  by_cases hb : b = A.1 T i
  · rw [if_pos hb, hb, hv_at hA hl, he]
  · rw [if_neg hb]
    show hv A iv rv ov b = hv A iv' rv' ov' b
    unfold hv
    by_cases hc : A.2.2 (A.2.1 b).1 (A.2.1 b).2 = true ∧ A.1 (A.2.1 b).1 (A.2.1 b).2 = b
    · rw [if_pos hc, if_pos hc, hne _ _ (fun q => hb (by rw [← hc.2, q.1, q.2])) hc.1]
    · rw [if_neg hc, if_neg hc]
theorem u3_row {α : Type} {f : Nat → Nat → Nat → α} {T i j T' i' : Nat} {x : α} (h : ¬ (T' = T ∧ i' = i)) : u3 f T i j x T' i' = f T' i' := funext fun c => if_neg (fun q => h ⟨q.1, q.2.1⟩)
theorem u3_own {α : Type} {f : Nat → Nat → Nat → α} {T i j : Nat} {x : α} : u3 f T i j x T i = fun c => if c = j then x else f T i c := funext fun c => by
  unfold u3
  by_cases h : c = j
  · rw [if_pos ⟨rfl, rfl, h⟩, if_pos h]
  · rw [if_neg (fun q => h q.2.2), if_neg h]
theorem z3_row {α : Type} {f : Nat → Nat → Nat → α} {T i T' i' : Nat} {x : α} (h : ¬ (T' = T ∧ i' = i)) : z3 f T i x T' i' = f T' i' := funext fun c => if_neg (fun q => h ⟨q.1, q.2⟩)
theorem z3_own {α : Type} {f : Nat → Nat → Nat → α} {T i : Nat} {x : α} : z3 f T i x T i = fun _ => x := funext fun c => if_pos ⟨rfl, rfl⟩
theorem cont_row {ad : Nat → Nat → Nat} {iv' : IVt} {rv' : RVt} {T' i' : Nat} (h1 : iv' T' i' = iv T' i') (h2 : rv' T' i' = rv T' i') : cont ad iv' rv' ov T' i' = cont ad iv rv ov T' i' := by
  unfold cont
  rw [h1, h2]
theorem pf_hv {K : hpT → Rs α} {x : Int32} (hA : IN A) (hl : A.2.2 T i = true) (hk : kc T = ci) (hc : ci < 10) (hf : (fty ci)[j]? = some true) : pf (z, hv A iv rv ov) (A.1 T i) ci j (.int x) K = K (z, hv A (u3 iv T i j x) rv ov) := by
  unfold pf
  have hlen : j < (flds A.1 (iv T i) (rv T i) (fty ci)).length := by rw [flds_len]; exact (List.getElem?_eq_some_iff.mp hf).1
  simp only [hv_at hA hl, cont_O hk hc, oO, if_true, true_and, hlen]
  congr 1
  refine hset_hv hA hl ?_ (fun T' i' hn hl' => cont_row (u3_row hn) rfl)
  rw [cont_O hk hc]
  unfold oO
  rw [flds_set (iv' := u3 iv T i j x T i) (rv' := rv T i) hf (by rw [if_pos rfl, u3_s]) (fun k hk => u3_n (fun q => hk q.2.2)) (fun k hk => rfl)]
theorem pfR_hv {K : hpT → Rs α} {T' i' : Nat} (hA : IN A) (hl : A.2.2 T i = true) (hk : kc T = ci) (hc : ci < 10) (hf : (fty ci)[j]? = some false) : pf (z, hv A iv rv ov) (A.1 T i) ci j (va_rf (some (A.1 T' i'))) K = K (z, hv A iv (u3 rv T i j (some (T', i'))) ov) := by
  unfold pf
  have hlen : j < (flds A.1 (iv T i) (rv T i) (fty ci)).length := by rw [flds_len]; exact (List.getElem?_eq_some_iff.mp hf).1
  simp only [hv_at hA hl, cont_O hk hc, oO, if_true, true_and, hlen]
  congr 1
  refine hset_hv hA hl ?_ (fun T' i' hn hl' => cont_row rfl (u3_row hn))
  rw [cont_O hk hc]
  unfold oO
  rw [flds_set (iv' := iv T i) (rv' := u3 rv T i j (some (T', i')) T i) hf (by rw [if_neg (by decide), u3_s, rfv_s]) (fun k hk => rfl) (fun k hk => u3_n (fun q => hk q.2.2))]
theorem pfN_hv {K : hpT → Rs α} (hA : IN A) (hl : A.2.2 T i = true) (hk : kc T = ci) (hc : ci < 10) (hf : (fty ci)[j]? = some false) : pf (z, hv A iv rv ov) (A.1 T i) ci j (va_rf none) K = K (z, hv A iv (u3 rv T i j none) ov) := by
  unfold pf
  have hlen : j < (flds A.1 (iv T i) (rv T i) (fty ci)).length := by rw [flds_len]; exact (List.getElem?_eq_some_iff.mp hf).1
  simp only [hv_at hA hl, cont_O hk hc, oO, if_true, true_and, hlen]
  congr 1
  refine hset_hv hA hl ?_ (fun T' i' hn hl' => cont_row rfl (u3_row hn))
  rw [cont_O hk hc]
  unfold oO
  rw [flds_set (iv' := iv T i) (rv' := u3 rv T i j none T i) hf (by rw [if_neg (by decide), u3_s, rfv_n]) (fun k hk => rfl) (fun k hk => u3_n (fun q => hk q.2.2))]
theorem alen_I {K : Int32 → Rs α} (hA : IN A) (hl : A.2.2 T i = true) (hk : kc T = 10) : alen (z, hv A iv rv ov) (A.1 T i) K = K (nI (kn T)) := by
  unfold alen
  simp only [hv_at hA hl, cont_I hk, oI]
  rfl
theorem alen_R {K : Int32 → Rs α} {k : Nat} (hA : IN A) (hl : A.2.2 T i = true) (hk : kc T = 12 + k) (hk5 : k < 5) : alen (z, hv A iv rv ov) (A.1 T i) K = K (nI (kn T)) := by
  unfold alen
  simp only [hv_at hA hl, cont_R hk, oR]
  split
  · rfl
  · rename_i h
    exact absurd (show 2 + k < 7 by omega) h
theorem ix_ok {k n : Nat} (hk : k < n) (hn : n < 2 ^ 31) : (0 ≤ (nI k).toInt ∧ (nI k).toInt < (n : Int)) := by
  rw [nI_toInt (Nat.lt_trans hk hn)]
  omega
theorem ald_hv {K : Int32 → Rs α} {k : Nat} (hA : IN A) (hl : A.2.2 T i = true) (hk : kc T = 10) (hj : k < kn T) : ald (z, hv A iv rv ov) (A.1 T i) (nI k) K = K (iv T i k) := by
  unfold ald
  simp only [hv_at hA hl, cont_I hk, oI]
  rw [if_pos ⟨trivial, ix_ok hj (kn_lt T)⟩, nI_clamp (Nat.lt_trans hj (kn_lt T))]
theorem ast_hv {K : hpT → Rs α} {k : Nat} {x : Int32} (hA : IN A) (hl : A.2.2 T i = true) (hk : kc T = 10) (hj : k < kn T) : ast (z, hv A iv rv ov) (A.1 T i) (nI k) x K = K (z, hv A (u3 iv T i k x) rv ov) := by
  unfold ast
  simp only [hv_at hA hl, cont_I hk, oI]
  rw [if_pos ⟨trivial, ix_ok hj (kn_lt T)⟩, nI_clamp (Nat.lt_trans hj (kn_lt T))]
  congr 1
  refine hset_hv hA hl ?_ (fun T' i' hn hl' => cont_row (u3_row hn) rfl)
  rw [cont_I hk, u3_own]
  rfl
theorem aldR_hv {K : Option Nat → Rs α} {k q : Nat} (hA : IN A) (hl : A.2.2 T i = true) (hk : kc T = 12 + q) (hj : k < kn T) : aldR (z, hv A iv rv ov) (2 + q) (A.1 T i) (nI k) K = K (rfv A.1 (rv T i k)) := by
  unfold aldR
  simp only [hv_at hA hl, cont_R hk, oR]
  rw [if_pos ⟨trivial, ix_ok hj (kn_lt T)⟩, nI_clamp (Nat.lt_trans hj (kn_lt T))]
theorem astR_hv {K : hpT → Rs α} {k q T' i' : Nat} (hA : IN A) (hl : A.2.2 T i = true) (hk : kc T = 12 + q) (hj : k < kn T) (hl' : A.2.2 T' i' = true) (hk' : kc T' = ci) (hc : ci < 10) : astR (z, hv A iv rv ov) (2 + q) ci (A.1 T i) (nI k) (A.1 T' i') K = K (z, hv A iv (u3 rv T i k (some (T', i'))) ov) := by
  unfold astR
  simp only [hv_at hA hl, cont_R hk, oR]
  rw [if_pos ⟨trivial, ix_ok hj (kn_lt T)⟩, nI_clamp (Nat.lt_trans hj (kn_lt T)), isO_hv hA hl' hk' hc]
  congr 1
  refine hset_hv hA hl ?_ (fun T' i' hn hl' => cont_row rfl (u3_row hn))
  rw [cont_R hk, u3_own]
  show oR _ _ _ = oR _ _ _
  refine congrArg (oR (2 + q) (kn T)) (funext fun c => ?_)
  show rfv A.1 (if c = k then some (T', i') else rv T i c) = va_up (fun j => rfv A.1 (rv T i j)) k (some (A.1 T' i')) c
  unfold va_up
  by_cases h : c = k
  · rw [if_pos h, if_pos h, rfv_s]
  · rw [if_neg h, if_neg h]
/-- the next address is free, no reference leads to a dead key -/
def OKA (A : Adr) (rv : RVt) (z : Nat) : Prop := IN A ∧ (∀ T i, A.2.2 T i = true → A.1 T i < z) ∧ ∀ T i j q, A.2.2 T i = true → rv T i j = some q → A.2.2 q.1 q.2 = true
def alA (A : Adr) (T i z : Nat) : Adr := (fun a b => if a = T ∧ b = i then z else A.1 a b, fun b => if b = z then (T, i) else A.2.1 b, fun a b => if a = T ∧ b = i then true else A.2.2 a b)
theorem alA_s {A : Adr} {T i z : Nat} : (alA A T i z).1 T i = z := if_pos ⟨rfl, rfl⟩
theorem alA_l {A : Adr} {T i z : Nat} : (alA A T i z).2.2 T i = true := if_pos ⟨rfl, rfl⟩
theorem alA_n {A : Adr} {T i z a b : Nat} (h : ¬ (a = T ∧ b = i)) : (alA A T i z).1 a b = A.1 a b := if_neg h
theorem alA_ln {A : Adr} {T i z a b : Nat} (h : ¬ (a = T ∧ b = i)) : (alA A T i z).2.2 a b = A.2.2 a b := if_neg h
theorem alA_lt {A : Adr} {T i z a b : Nat} (h : A.2.2 a b = true) : (alA A T i z).2.2 a b = true := by
  unfold alA
  by_cases q : a = T ∧ b = i
  · exact if_pos q
  · exact (if_neg q).trans h
theorem hpush_hv {e : va_E} {iv' : IVt} {rv' : RVt} (hA : OKA A rv z) (hn : A.2.2 T i = false) (he : cont (alA A T i z).1 iv' rv' ov T i = e) (hi : ∀ T' i', ¬ (T' = T ∧ i' = i) → iv' T' i' = iv T' i') (hr : ∀ T' i', ¬ (T' = T ∧ i' = i) → rv' T' i' = rv T' i') (hr2 : ∀ j, rv' T i j = none) : hpush (z, hv A iv rv ov) e = (z + 1, hv (alA A T i z) iv' rv' ov) ∧ OKA (alA A T i z) rv' (z + 1) := by
  obtain ⟨h1, h2, h3⟩ := hA
  have hne : ∀ T' i', A.2.2 T' i' = true → ¬ (T' = T ∧ i' = i) := fun T' i' hl q => by rw [q.1, q.2, hn] at hl; cases hl
  have hI : IN (alA A T i z) := by
    intro T' i' hl
    by_cases q : T' = T ∧ i' = i
    · rw [q.1, q.2, alA_s]
      exact if_pos rfl
    · rw [alA_ln q] at hl
      rw [alA_n q]
      exact (if_neg (Nat.ne_of_lt (h2 T' i' hl))).trans (h1 T' i' hl)
  refine ⟨?_, hI, fun T' i' hl => ?_, fun T' i' j q hl hq => ?_⟩
  · unfold hpush
    refine congrArg (Prod.mk (z + 1)) (funext fun b => ?_)
    by_cases hb : b = z
    · have h5 : hv (alA A T i z) iv' rv' ov b = some (cont (alA A T i z).1 iv' rv' ov T i) := by
        have h6 := hv_at (iv := iv') (rv := rv') (ov := ov) hI (alA_l (A := A) (T := T) (i := i) (z := z))
        rw [alA_s] at h6
        rw [hb]; exact h6
      rw [h5, he]
      exact if_pos hb
    · refine (if_neg hb).trans ?_
      have h7 : (alA A T i z).2.1 b = A.2.1 b := if_neg hb
      show hv A iv rv ov b = _
      unfold hv
      rw [h7]
      by_cases hc : A.2.2 (A.2.1 b).1 (A.2.1 b).2 = true ∧ A.1 (A.2.1 b).1 (A.2.1 b).2 = b
      · have q := hne _ _ hc.1
        rw [if_pos hc, if_pos ⟨by rw [alA_ln q]; exact hc.1, by rw [alA_n q]; exact hc.2⟩]
        have hrf : ∀ j, rfv (alA A T i z).1 (rv (A.2.1 b).1 (A.2.1 b).2 j) = rfv A.1 (rv (A.2.1 b).1 (A.2.1 b).2 j) := by
          intro j
          cases hj : rv (A.2.1 b).1 (A.2.1 b).2 j with
          | none => rfl
          | some w => exact congrArg some (alA_n (hne _ _ (h3 _ _ j w hc.1 hj)))
        unfold cont
        rw [hi _ _ q, hr _ _ q]
        simp only [hrf]
        rw [flds_to (fun j => rfl) hrf]
      · rw [if_neg hc, if_neg]
        rintro ⟨c1, c2⟩
        by_cases q : (A.2.1 b).1 = T ∧ (A.2.1 b).2 = i
        · rw [q.1, q.2, alA_s] at c2
          exact hb c2.symm
        · rw [alA_ln q] at c1
          rw [alA_n q] at c2
          exact hc ⟨c1, c2⟩
  · by_cases q : T' = T ∧ i' = i
    · rw [q.1, q.2, alA_s]
      exact Nat.lt_succ_self z
    · rw [alA_ln q] at hl
      rw [alA_n q]
      exact Nat.lt_succ_of_lt (h2 T' i' hl)
  · by_cases w : T' = T ∧ i' = i
    · rw [w.1, w.2, hr2] at hq
      cases hq
    · rw [alA_ln w] at hl
      rw [hr _ _ w] at hq
      exact alA_lt (h3 T' i' j q hl hq)
theorem newO_hv {K : Nat → hpT → Rs α} {fs : List Value} (hA : OKA A rv z) (hn : A.2.2 T i = false) (hk : kc T = ci) (hc : ci < 10) (hf : (fty ci).map (fun b => if b = true then Value.int 0 else Value.null) = fs) : newO (z, hv A iv rv ov) ci fs K = K ((alA A T i z).1 T i) (z + 1, hv (alA A T i z) (z3 iv T i 0) (z3 rv T i none) ov) ∧ OKA (alA A T i z) (z3 rv T i none) (z + 1) := by
  have h := hpush_hv (e := oO ci fs) (iv' := z3 iv T i 0) (rv' := z3 rv T i none) (ov := ov) (iv := iv) hA hn (by
    rw [cont_O hk hc, ← hf, z3_own, z3_own]
    congr 1
    unfold flds
    refine List.ext_getElem? (fun k => ?_)
    rw [List.getElem?_mapIdx, List.getElem?_map]
    cases (fty ci)[k]? with
    | none => rfl
    | some b => cases b <;> rfl) (fun T' i' q => z3_row q) (fun T' i' q => z3_row q) (fun j => z3_s)
  refine ⟨?_, h.2⟩
  unfold newO
  rw [h.1, alA_s]
theorem newI_hv {K : Nat → hpT → Rs α} {n : Nat} (hA : OKA A rv z) (hn : A.2.2 T i = false) (hk : kc T = 10) (hk2 : kn T = n) : newI (z, hv A iv rv ov) n K = K ((alA A T i z).1 T i) (z + 1, hv (alA A T i z) (z3 iv T i 0) (z3 rv T i none) ov) ∧ OKA (alA A T i z) (z3 rv T i none) (z + 1) := by
  have h := hpush_hv (e := oI n (fun _ => 0)) (iv' := z3 iv T i 0) (rv' := z3 rv T i none) (ov := ov) (iv := iv) hA hn (by
    rw [cont_I hk, ← hk2, z3_own]) (fun T' i' q => z3_row q) (fun T' i' q => z3_row q) (fun j => z3_s)
  refine ⟨?_, h.2⟩
  unfold newI
  rw [h.1, alA_s]
theorem newR_hv {K : Nat → hpT → Rs α} {n k : Nat} (hA : OKA A rv z) (hn : A.2.2 T i = false) (hk : kc T = 12 + k) (hk2 : kn T = n) : newR (z, hv A iv rv ov) (2 + k) n K = K ((alA A T i z).1 T i) (z + 1, hv (alA A T i z) (z3 iv T i 0) (z3 rv T i none) ov) ∧ OKA (alA A T i z) (z3 rv T i none) (z + 1) := by
  have h := hpush_hv (e := oR (2 + k) n (fun _ => none)) (iv' := z3 iv T i 0) (rv' := z3 rv T i none) (ov := ov) (iv := iv) hA hn (by
    rw [cont_R hk, ← hk2, z3_own]
    rfl) (fun T' i' q => z3_row q) (fun T' i' q => z3_row q) (fun j => z3_s)
  refine ⟨?_, h.2⟩
  unfold newR
  rw [h.1, alA_s]
theorem OKA.ref {T' i' : Nat} (hA : OKA A rv z) (hl : A.2.2 T' i' = true) : OKA A (u3 rv T i j (some (T', i'))) z := by
  refine ⟨hA.1, hA.2.1, fun a b c q h1 h2 => ?_⟩
  by_cases w : a = T ∧ b = i ∧ c = j
  · rw [w.1, w.2.1, w.2.2, u3_s] at h2
    cases h2
    exact hl
  · rw [u3_n w] at h2
    exact hA.2.2 a b c q h1 h2
theorem OKA.nul (hA : OKA A rv z) : OKA A (u3 rv T i j none) z := by
  refine ⟨hA.1, hA.2.1, fun a b c q h1 h2 => ?_⟩
  by_cases w : a = T ∧ b = i ∧ c = j
  · rw [w.1, w.2.1, w.2.2, u3_s] at h2
    cases h2
  · rw [u3_n w] at h2
    exact hA.2.2 a b c q h1 h2
theorem nn_s {a : Nat} {K : Nat → Rs α} : nn (some a) K = K a := rfl
theorem nlc_s {a : Nat} {X : Rs α} {B : Nat → Rs α} : nlc (some a) X B = B a := rfl
theorem nlc_n {X : Rs α} {B : Nat → Rs α} : nlc none X B = X := rfl
theorem bnd_v {β : Type} {v : β} {hp : hpT} {K : β → hpT → Rs α} : bnd (rtv v hp) K = K v hp := rfl
theorem bnd_t {β : Type} {E : String} {hp : hpT} {K : β → hpT → Rs α} : bnd (tht E hp : Rs β) K = tht E hp := rfl
theorem bnd_0 {hp : hpT} {K : Int32 → hpT → Rs α} : bnd (rtZ 0 hp) K = K 0 hp := rfl
theorem bnd_1 {hp : hpT} {K : Int32 → hpT → Rs α} : bnd (rtZ 1 hp) K = K 1 hp := rfl
theorem rtZ_0 {hp : hpT} : rtZ 0 hp = rtv 0 hp := rfl
theorem rtZ_1 {hp : hpT} : rtZ 1 hp = rtv 1 hp := rfl
theorem nz_p {y : Int32} {K : Rs α} (h : ¬ y = 0) : nz y K = K := if_neg h
end KEYS
