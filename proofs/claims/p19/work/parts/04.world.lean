/-! THE WORLD: an abstract heap (the next address, and what lies at each address), and the rows of the machine over it. A method's meaning is a plain function over abstract heaps, in results of type Rs; its machine row says that the method does what the function says. -/
-- ===== words
def gdL : List Cond := lw_tbl.filter goodWord
def ngW (w : Cond) : Bool := match w with
  | .fieldLinkNest .. => true
  | .methodLinkNest .. => true
  | .castable .. => true
  | .declares .. => true
  | _ => false
def ngL : List Cond := lw_tbl.filter ngW
theorem gdL_in {w : Cond} (i : Nat) (h : lw_tbl[i]? = some w) (hg : goodWord w = true) : w ∈ gdL := List.mem_filter.mpr ⟨List.mem_of_getElem? h, hg⟩
theorem ngL_in {w : Cond} (i : Nat) (h : lw_tbl[i]? = some w) (hg : ngW w = true) : w ∈ ngL := List.mem_filter.mpr ⟨List.mem_of_getElem? h, hg⟩
theorem gdL_good {w : Cond} (h : w ∈ gdL) : (w.onTables && w.keeps) = true ∨ ∃ ty, w = .arrayClass ty := good_of_word (List.mem_filter.mp h).2
theorem gdIn {ws : List Cond} (h : ∀ w ∈ ws, w ∈ gdL) : GoodIn gdL ws := fun w hw => ⟨h w hw, gdL_good (h w hw)⟩
theorem ngL_warm {w : Cond} (hw : w ∈ ngL) {s U : State} (hW : s.WarmedH U.vm) (h : va_Nw w s) : va_Nw w U := by
  have h1 := (List.mem_filter.mp hw).2
  cases w <;> first | exact va_Nw.warmF hW h | exact va_Nw.warmM hW h | exact va_Nw.warmC hW h | exact va_Nw.warmD hW h | (simp [ngW] at h1)
theorem ngL_tab {w : Cond} (hw : w ∈ ngL) : w.onTables = true := by
  have h1 := (List.mem_filter.mp hw).2
  cases w <;> first | rfl | (simp [ngW] at h1)
-- ===== kinds of arrays, the classes whose arrays are made, the texts
def akT : List FieldType := [.int, .int, .object RX3, .object RX4, .object RX1, .object RX5, .object RX6]
def aoL : List String := [RX3, RX4, RX1, RX5, RX6]
def ncL : List (String × String) := [("java/lang/IllegalArgumentException", "java/lang/IllegalStateException"), ("java/lang/IllegalArgumentException", "java/lang/IndexOutOfBoundsException"), ("java/lang/IllegalStateException", "java/lang/IllegalArgumentException"), ("java/lang/IllegalStateException", "java/lang/IndexOutOfBoundsException"), ("java/lang/IndexOutOfBoundsException", "java/lang/IllegalArgumentException"), ("java/lang/IndexOutOfBoundsException", "java/lang/IllegalStateException")]
def KT (cA : Nat → ClassId) : List (ClassId × FieldType) := [(cA 0, .int), (cA 1, .int), (cA 2, .object RX3), (cA 3, .object RX4), (cA 4, .object RX1), (cA 5, .object RX5), (cA 6, .object RX6)]
-- ===== abstract heaps
abbrev hpT : Type := Nat × (Nat → Option va_E)
def hset (hp : hpT) (a : Nat) (e : va_E) : hpT := (hp.1, fun b => if b = a then some e else hp.2 b)
def hpush (hp : hpT) (e : va_E) : hpT := (hp.1 + 1, fun b => if b = hp.1 then some e else hp.2 b)
def oO (ci : Nat) (fs : List Value) : va_E := .inr (ci, fs)
def oI (n : Nat) (f : Nat → Int32) : va_E := .inl (0, n, .inl f)
def oL (n : Nat) (f : Nat → Int64) : va_E := .inl (1, n, .inr (.inl f))
def oR (k n : Nat) (f : Nat → Option Nat) : va_E := .inl (k, n, .inr (.inr (.inr (.inr f))))
def wdE (D : va_G) (cA : Nat → ClassId) (a : Nat) (e : va_E) (H : Heap) : Prop := match e with
  | .inl x => H[a]? = some (vp_cell (cA x.1) x.2)
  | .inr o => va_at D vwCl (a, .inr o) H
def WdX (D : va_G) (cA : Nat → ClassId) (h0 : Nat) (hp : hpT) (H : Heap) : Prop := h0 ≤ H.size ∧ ∀ (a : Nat) (e : va_E), hp.2 a = some e → h0 ≤ a ∧ wdE D cA a e H
def Wd (D : va_G) (cA : Nat → ClassId) (h0 : Nat) (hp : hpT) (H : Heap) : Prop := H.size = hp.1 ∧ WdX D cA h0 hp H
abbrev Af (h0 : Nat) : Nat → Prop := fun q => h0 ≤ q
-- ===== what the tables say, at a method's start
def Kx (strs : List (String × Nat × String)) (D : va_G) (cA : Nat → ClassId) (h0 : Nat) (U : State) : Prop :=
  va_K D vwCl (KT cA) U ∧ (∀ w ∈ ngL, va_Nw w U) ∧ (∀ C ∈ aoL, va_AO C U) ∧ (∀ q ∈ strs, ∃ a, vk_R q.1 q.2.1 q.2.2 a U) ∧
  vx_Zq Bundle.tN "UNASSIGNED_STACK" Bundle.steD (Af h0) U U.heap ∧ vx_Zq Bundle.tN "SUPPRESSED_SENTINEL" Bundle.listD (Af h0) U U.heap ∧ h0 ≤ U.heap.size ∧ ∀ q ∈ ncL, va_Nc q.1 q.2 U
theorem Kx.to {strs : List (String × Nat × String)} {D : va_G} {cA : Nat → ClassId} {h0 : Nat} {s U : State} (h : Kx strs D cA h0 s) (hW : s.WarmedH U.vm) (hz : s.heap.size ≤ U.heap.size) (hq : ∀ a : Nat, a < s.heap.size → ¬ Af h0 a → U.heap[a]? = s.heap[a]?) : Kx strs D cA h0 U := by
  obtain ⟨h1, h2, h3, h4, h5, h6, h7, h8⟩ := h
  refine ⟨va_K.moved hW.alike h1, fun w hw => ngL_warm hw hW (h2 w hw), fun C hC => va_AO.moved hW.alike (h3 C hC), fun q hq => ?_, (vx_Zq.moved hW.alike h5).kept hq, (vx_Zq.moved hW.alike h6).kept hq, Nat.le_trans h7 hz, fun q hq => va_Nc.moved hW.alike (h8 q hq)⟩
  obtain ⟨a, ha⟩ := h4 q hq
  exact ⟨a, vk_R.warm hW ha⟩
def Pre (strs : List (String × Nat × String)) (D : va_G) (cA : Nat → ClassId) (h0 : Nat) (hp : hpT) (U : State) : Prop := Wd D cA h0 hp U.heap ∧ Kx strs D cA h0 U
-- ===== worlds: rows
theorem WdX.keep {D : va_G} {cA : Nat → ClassId} {h0 : Nat} {hp : hpT} {H H1 : Heap} (h : WdX D cA h0 hp H) (hz : H.size ≤ H1.size) (hq : ∀ a : Nat, a < H.size → H1[a]? = H[a]?) : WdX D cA h0 hp H1 := by
  refine ⟨Nat.le_trans h.1 hz, fun a e he => ?_⟩
  obtain ⟨h1, h2⟩ := h.2 a e he
  refine ⟨h1, ?_⟩
  cases e with
  | inl x =>
    have h3 : H[a]? = some (vp_cell (cA x.1) x.2) := h2
    exact (hq a (Array.getElem?_eq_some_iff.mp h3).1).trans h3
  | inr o =>
    have h3 : va_at D vwCl (a, .inr o) H := h2
    exact h3.kept (hq a h3.lt)
theorem Wd.lt {D : va_G} {cA : Nat → ClassId} {h0 : Nat} {hp : hpT} {H : Heap} (h : Wd D cA h0 hp H) {a : Nat} {e : va_E} (he : hp.2 a = some e) : a < hp.1 := by
  rw [← h.1]
  have h2 := (h.2.2 a e he).2
  cases e with
  | inl x => exact (Array.getElem?_eq_some_iff.mp (show H[a]? = some _ from h2)).1
  | inr o => exact (show va_at D vwCl (a, .inr o) H from h2).lt
theorem Wd.set {D : va_G} {cA : Nat → ClassId} {h0 : Nat} {hp : hpT} {H H1 : Heap} {a : Nat} {e0 e : va_E} (h : Wd D cA h0 hp H) (ha : hp.2 a = some e0) (hz : H1.size = H.size) (he : wdE D cA a e H1) (oq : ∀ q : Nat, q ≠ a → H1[q]? = H[q]?) : Wd D cA h0 (hset hp a e) H1 := by
  refine ⟨hz.trans h.1, by rw [hz]; exact h.2.1, fun b e' hb => ?_⟩
  by_cases hba : b = a
  · subst hba
    have : e' = e := by
      have h1 : (if b = b then some e else hp.2 b) = some e' := hb
      rw [if_pos rfl] at h1
      exact (Option.some.inj h1).symm
    subst this
    exact ⟨(h.2.2 b e0 ha).1, he⟩
  · have h1 : (if b = a then some e else hp.2 b) = some e' := hb
    rw [if_neg hba] at h1
    obtain ⟨g1, g2⟩ := h.2.2 b e' h1
    refine ⟨g1, ?_⟩
    cases e' with
    | inl x => exact (oq b hba).trans (show H[b]? = some _ from g2)
    | inr o => exact (show va_at D vwCl (b, .inr o) H from g2).kept (oq b hba)
theorem Wd.push {D : va_G} {cA : Nat → ClassId} {h0 : Nat} {hp : hpT} {H H1 : Heap} {e : va_E} (h : Wd D cA h0 hp H) (hz : H1.size = H.size + 1) (he : wdE D cA H.size e H1) (oq : ∀ q : Nat, q < H.size → H1[q]? = H[q]?) : Wd D cA h0 (hpush hp e) H1 := by
  refine ⟨by rw [hz, h.1]; rfl, by rw [hz]; exact Nat.le_succ_of_le h.2.1, fun b e' hb => ?_⟩
  by_cases hba : b = hp.1
  · have h1 : (if b = hp.1 then some e else hp.2 b) = some e' := hb
    rw [if_pos hba] at h1
    cases h1
    rw [hba, ← h.1]
    exact ⟨h.2.1, he⟩
  · have h1 : (if b = hp.1 then some e else hp.2 b) = some e' := hb
    rw [if_neg hba] at h1
    exact (h.2.keep (by omega) oq).2 b e' h1
theorem Wd.obj {D : va_G} {cA : Nat → ClassId} {h0 : Nat} {hp : hpT} {H : Heap} (h : Wd D cA h0 hp H) {a : Nat} {o : Nat × List Value} (he : hp.2 a = some (.inr o)) : va_P D vwCl [(a, .inr o)] H := by
  intro k q hk
  have hz : k < 1 := (List.getElem?_eq_some_iff.mp hk).1
  rw [show k = 0 by omega] at hk
  cases hk
  exact (h.2.2 a _ he).2
theorem Wd.arr {D : va_G} {cA : Nat → ClassId} {h0 : Nat} {hp : hpT} {H : Heap} (h : Wd D cA h0 hp H) {a : Nat} {x : Nat × vp_A} (he : hp.2 a = some (.inl x)) : va_P D vwCl [(a, .inl (cA x.1, x.2))] H := by
  intro k q hk
  have hz : k < 1 := (List.getElem?_eq_some_iff.mp hk).1
  rw [show k = 0 by omega] at hk
  cases hk
  exact (h.2.2 a _ he).2
-- ===== results
abbrev Rs (α : Type) : Type := Option ((α ⊕ String) × hpT)
def rtv {α : Type} (v : α) (hp : hpT) : Rs α := some (.inl v, hp)
def tht {α : Type} (E : String) (hp : hpT) : Rs α := some (.inr E, hp)
def rtZ (v : Int32) (hp : hpT) : Rs Int32 := if v = 0 ∨ v = 1 then some (.inl v, hp) else none
def bnd {α β : Type} (x : Rs α) (K : α → hpT → Rs β) : Rs β := match x with
  | some (.inl v, hp) => K v hp
  | some (.inr E, hp) => some (.inr E, hp)
  | none => none
theorem bnd_inv {α β : Type} {x : Rs α} {K : α → hpT → Rs β} {res : (β ⊕ String) × hpT} (h : bnd x K = some res) : ∃ r1, x = some r1 ∧ (∀ v, r1.1 = .inl v → K v r1.2 = some res) ∧ (∀ E, r1.1 = .inr E → res = (.inr E, r1.2)) := by
  match x, h with
  | some (.inl v, hp), h => exact ⟨_, rfl, fun w hw => (by cases hw; exact h), fun E hE => (by cases hE)⟩
  | some (.inr E, hp), h => exact ⟨_, rfl, fun w hw => (by cases hw), fun E' hE => (by cases hE; exact (Option.some.inj h).symm)⟩
  | none, h => cases h
def nn {α : Type} (r : Option Nat) (K : Nat → Rs α) : Rs α := match r with
  | some a => K a
  | none => none
def nlc {α : Type} (r : Option Nat) (A : Rs α) (B : Nat → Rs α) : Rs α := match r with
  | some a => B a
  | none => A
def gfI {α : Type} (hp : hpT) (a ci k : Nat) (K : Int32 → Rs α) : Rs α := match hp.2 a with
  | some (.inr o) => if o.1 = ci then (match o.2[k]? with
    | some (.int x) => K x
    | _ => none) else none
  | _ => none
def gfR {α : Type} (hp : hpT) (a ci k : Nat) (K : Option Nat → Rs α) : Rs α := match hp.2 a with
  | some (.inr o) => if o.1 = ci then (match o.2[k]? with
    | some (.ref x) => K (some x)
    | some .null => K none
    | _ => none) else none
  | _ => none
def pf {α : Type} (hp : hpT) (a ci k : Nat) (v : Value) (K : hpT → Rs α) : Rs α := match hp.2 a with
  | some (.inr o) => if o.1 = ci ∧ k < o.2.length then K (hset hp a (.inr (ci, o.2.set k v))) else none
  | _ => none
def isO {α : Type} (hp : hpT) (a ci : Nat) (K : Rs α) : Rs α := match hp.2 a with
  | some (.inr o) => if o.1 = ci then K else none
  | _ => none
def inb (i : Int32) (n : Nat) : Prop := 0 ≤ i.toInt ∧ i.toInt < n
theorem inb_in {i : Int32} {n : Nat} (h : inb i n) : vp_in i n := vp_in_iff.mpr h
def ald {α : Type} (hp : hpT) (a : Nat) (i : Int32) (K : Int32 → Rs α) : Rs α := match hp.2 a with
  | some (.inl (k, n, .inl f)) => if k = 0 ∧ (0 ≤ i.toInt ∧ i.toInt < n) then K (f i.toNatClampNeg) else none
  | _ => none
def ast {α : Type} (hp : hpT) (a : Nat) (i x : Int32) (K : hpT → Rs α) : Rs α := match hp.2 a with
  | some (.inl (k, n, .inl f)) => if k = 0 ∧ (0 ≤ i.toInt ∧ i.toInt < n) then K (hset hp a (oI n (upd f i.toNatClampNeg x))) else none
  | _ => none
def aldL {α : Type} (hp : hpT) (a : Nat) (i : Int32) (K : Int64 → Rs α) : Rs α := match hp.2 a with
  | some (.inl (k, n, .inr (.inl f))) => if k = 1 ∧ (0 ≤ i.toInt ∧ i.toInt < n) then K (f i.toNatClampNeg) else none
  | _ => none
def astL {α : Type} (hp : hpT) (a : Nat) (i : Int32) (x : Int64) (K : hpT → Rs α) : Rs α := match hp.2 a with
  | some (.inl (k, n, .inr (.inl f))) => if k = 1 ∧ (0 ≤ i.toInt ∧ i.toInt < n) then K (hset hp a (oL n (vp_updL f i.toNatClampNeg x))) else none
  | _ => none
def aldR {α : Type} (hp : hpT) (k0 a : Nat) (i : Int32) (K : Option Nat → Rs α) : Rs α := match hp.2 a with
  | some (.inl (k, n, .inr (.inr (.inr (.inr f))))) => if k = k0 ∧ (0 ≤ i.toInt ∧ i.toInt < n) then K (f i.toNatClampNeg) else none
  | _ => none
def astR {α : Type} (hp : hpT) (k0 ci a : Nat) (i : Int32) (v : Nat) (K : hpT → Rs α) : Rs α := match hp.2 a with
  | some (.inl (k, n, .inr (.inr (.inr (.inr f))))) => if k = k0 ∧ (0 ≤ i.toInt ∧ i.toInt < n) then isO hp v ci (K (hset hp a (oR k0 n (va_up f i.toNatClampNeg (some v))))) else none
  | _ => none
def alen {α : Type} (hp : hpT) (a : Nat) (K : Int32 → Rs α) : Rs α := match hp.2 a with
  | some (.inl (k, n, _)) => if k < 7 then K (Int32.ofNat n) else none
  | _ => none
def nz {α : Type} (y : Int32) (K : Rs α) : Rs α := if y = 0 then none else K
def irm (x y : Int32) : Int32 := x - x / y * y
def newO {α : Type} (hp : hpT) (ci : Nat) (fs : List Value) (K : Nat → hpT → Rs α) : Rs α := K hp.1 (hpush hp (oO ci fs))
def newI {α : Type} (hp : hpT) (n : Nat) (K : Nat → hpT → Rs α) : Rs α := K hp.1 (hpush hp (oI n (fun _ => 0)))
def newL {α : Type} (hp : hpT) (n : Nat) (K : Nat → hpT → Rs α) : Rs α := K hp.1 (hpush hp (oL n (fun _ => 0)))
def newR {α : Type} (hp : hpT) (k n : Nat) (K : Nat → hpT → Rs α) : Rs α := K hp.1 (hpush hp (oR k n (fun _ => none)))
-- ===== the inversions
theorem nn_inv {α : Type} {r : Option Nat} {K : Nat → Rs α} {z : (α ⊕ String) × hpT} (h : nn r K = some z) : ∃ a, r = some a ∧ K a = some z := by
  cases r with
  | none => cases h
  | some a => exact ⟨a, rfl, h⟩
theorem gfI_inv {α : Type} {hp : hpT} {a ci k : Nat} {K : Int32 → Rs α} {z : (α ⊕ String) × hpT} (h : gfI hp a ci k K = some z) : ∃ fs x, hp.2 a = some (.inr (ci, fs)) ∧ fs[k]? = some (.int x) ∧ K x = some z := by
  unfold gfI at h
  split at h
  · rename_i o ho
    split at h
    · rename_i hc
      split at h
      · rename_i x hx
        exact ⟨o.2, x, by rw [ho, ← hc], hx, h⟩
      · cases h
    · cases h
  · cases h
theorem gfR_inv {α : Type} {hp : hpT} {a ci k : Nat} {K : Option Nat → Rs α} {z : (α ⊕ String) × hpT} (h : gfR hp a ci k K = some z) : ∃ fs r, hp.2 a = some (.inr (ci, fs)) ∧ fs[k]? = some (va_rf r) ∧ K r = some z := by
  unfold gfR at h
  split at h
  · rename_i o ho
    split at h
    · rename_i hc
      split at h
      · rename_i x hx
        exact ⟨o.2, some x, by rw [ho, ← hc], hx, h⟩
      · rename_i hx
        exact ⟨o.2, none, by rw [ho, ← hc], hx, h⟩
      · cases h
    · cases h
  · cases h
theorem pf_inv {α : Type} {hp : hpT} {a ci k : Nat} {v : Value} {K : hpT → Rs α} {z : (α ⊕ String) × hpT} (h : pf hp a ci k v K = some z) : ∃ fs, hp.2 a = some (.inr (ci, fs)) ∧ k < fs.length ∧ K (hset hp a (.inr (ci, fs.set k v))) = some z := by
  unfold pf at h
  split at h
  · rename_i o ho
    split at h
    · rename_i hc
      exact ⟨o.2, by rw [ho, ← hc.1], hc.2, h⟩
    · cases h
  · cases h
theorem isO_inv {α : Type} {hp : hpT} {a ci : Nat} {K : Rs α} {z : (α ⊕ String) × hpT} (h : isO hp a ci K = some z) : ∃ fs, hp.2 a = some (.inr (ci, fs)) ∧ K = some z := by
  unfold isO at h
  split at h
  · rename_i o ho
    split at h
    · rename_i hc
      exact ⟨o.2, by rw [ho, ← hc], h⟩
    · cases h
  · cases h
theorem ald_inv {α : Type} {hp : hpT} {a : Nat} {i : Int32} {K : Int32 → Rs α} {z : (α ⊕ String) × hpT} (h : ald hp a i K = some z) : ∃ n f, hp.2 a = some (.inl (0, n, .inl f)) ∧ inb i n ∧ K (f i.toNatClampNeg) = some z := by
  unfold ald at h
  split at h
  · rename_i k n f ho
    split at h
    · rename_i hc
      exact ⟨n, f, by rw [ho, hc.1], hc.2, h⟩
    · cases h
  · cases h
theorem ast_inv {α : Type} {hp : hpT} {a : Nat} {i x : Int32} {K : hpT → Rs α} {z : (α ⊕ String) × hpT} (h : ast hp a i x K = some z) : ∃ n f, hp.2 a = some (.inl (0, n, .inl f)) ∧ inb i n ∧ K (hset hp a (oI n (upd f i.toNatClampNeg x))) = some z := by
  unfold ast at h
  split at h
  · rename_i k n f ho
    split at h
    · rename_i hc
      exact ⟨n, f, by rw [ho, hc.1], hc.2, h⟩
    · cases h
  · cases h
theorem aldL_inv {α : Type} {hp : hpT} {a : Nat} {i : Int32} {K : Int64 → Rs α} {z : (α ⊕ String) × hpT} (h : aldL hp a i K = some z) : ∃ n f, hp.2 a = some (.inl (1, n, .inr (.inl f))) ∧ inb i n ∧ K (f i.toNatClampNeg) = some z := by
  unfold aldL at h
  split at h
  · rename_i k n f ho
    split at h
    · rename_i hc
      exact ⟨n, f, by rw [ho, hc.1], hc.2, h⟩
    · cases h
  · cases h
theorem astL_inv {α : Type} {hp : hpT} {a : Nat} {i : Int32} {x : Int64} {K : hpT → Rs α} {z : (α ⊕ String) × hpT} (h : astL hp a i x K = some z) : ∃ n f, hp.2 a = some (.inl (1, n, .inr (.inl f))) ∧ inb i n ∧ K (hset hp a (oL n (vp_updL f i.toNatClampNeg x))) = some z := by
  unfold astL at h
  split at h
  · rename_i k n f ho
    split at h
    · rename_i hc
      exact ⟨n, f, by rw [ho, hc.1], hc.2, h⟩
    · cases h
  · cases h
theorem aldR_inv {α : Type} {hp : hpT} {k0 a : Nat} {i : Int32} {K : Option Nat → Rs α} {z : (α ⊕ String) × hpT} (h : aldR hp k0 a i K = some z) : ∃ n f, hp.2 a = some (.inl (k0, n, .inr (.inr (.inr (.inr f))))) ∧ inb i n ∧ K (f i.toNatClampNeg) = some z := by
  unfold aldR at h
  split at h
  · rename_i k n f ho
    split at h
    · rename_i hc
      exact ⟨n, f, by rw [ho, hc.1], hc.2, h⟩
    · cases h
  · cases h
theorem astR_inv {α : Type} {hp : hpT} {k0 ci a : Nat} {i : Int32} {v : Nat} {K : hpT → Rs α} {z : (α ⊕ String) × hpT} (h : astR hp k0 ci a i v K = some z) : ∃ n f fs, hp.2 a = some (.inl (k0, n, .inr (.inr (.inr (.inr f))))) ∧ inb i n ∧ hp.2 v = some (.inr (ci, fs)) ∧ K (hset hp a (oR k0 n (va_up f i.toNatClampNeg (some v)))) = some z := by
  unfold astR at h
  split at h
  · rename_i k n f ho
    split at h
    · rename_i hc
      obtain ⟨fs, q1, q2⟩ := isO_inv h
      exact ⟨n, f, fs, by rw [ho, hc.1], hc.2, q1, q2⟩
    · cases h
  · cases h
theorem alen_inv {α : Type} {hp : hpT} {a : Nat} {K : Int32 → Rs α} {z : (α ⊕ String) × hpT} (h : alen hp a K = some z) : ∃ k n x, hp.2 a = some (.inl (k, n, x)) ∧ k < 7 ∧ K (Int32.ofNat n) = some z := by
  unfold alen at h
  split at h
  · rename_i k n x ho
    split at h
    · rename_i hk
      exact ⟨k, n, x, ho, hk, h⟩
    · cases h
  · cases h
theorem nz_inv {α : Type} {y : Int32} {K : Rs α} {z : (α ⊕ String) × hpT} (h : nz y K = some z) : ¬ y = 0 ∧ K = some z := by
  unfold nz at h
  split at h
  · cases h
  · rename_i hy
    exact ⟨hy, h⟩
theorem rtZ_inv {v : Int32} {hp : hpT} {z : (Int32 ⊕ String) × hpT} (h : rtZ v hp = some z) : (v = 0 ∨ v = 1) ∧ z = (.inl v, hp) := by
  unfold rtZ at h
  split at h
  · rename_i hv
    exact ⟨hv, (Option.some.inj h).symm⟩
  · cases h
