/-! how drops are cut from rolls: the count of it, and one drop on both sides -/
/-- where a roll with the last cut e gives a drop -/
def bg (R p e : Nat) : Nat := e + wm (nI p - nI e) R
theorem bg_mod {R p e : Nat} (hR : p < R) (hp : R ≤ 10) (he : e ≤ 200) : bg R p e % R = p := by
  have h1 := wm_int (v := nI p - nI e) (M := R) (by omega)
  rw [pk_sub_toInt (by omega) (by omega)] at h1
  have h2 : ((bg R p e % R : Nat) : Int) = (p : Int) := by
    unfold bg
    rw [Int.natCast_emod, Int.natCast_add, h1, Int.add_comm, Int.emod_add_emod, show (p : Int) - (e : Int) + (e : Int) = p by omega]
    exact Int.emod_eq_of_lt (by omega) (by omega)
  exact Int.ofNat_inj.mp h2
theorem bg_lt {R p e : Nat} (hR : 0 < R) : bg R p e < e + R := by
  have := wm_lt (v := nI p - nI e) hR
  unfold bg
  omega
/-- the first roll from k on that gives a drop of the height h: its number, the row -/
def fnd (L R p h m : Nat) (f : Nat → Nat) : Nat → Nat → Option (Nat × Nat)
  | 0, k => if k < m ∧ p + h ≤ L then some (k, p) else none
  | g + 1, k => if bg R p (f k) + h ≤ L then some (k, bg R p (f k)) else fnd L R p h m f g (k + 1)
theorem fnd_ok {L R p h m : Nat} {f : Nat → Nat} (hR : p < R) (hR2 : R ≤ 10) : ∀ g k q b, (∀ j, j < k + g → f j ≤ 200) → fnd L R p h m f g k = some (q, b) → k ≤ q ∧ (q < k + g ∨ (q = k + g ∧ q < m)) ∧ b + h ≤ L ∧ b % R = p := by
  intro g
  induction g with
  | zero =>
    intro k q b hf h1
    unfold fnd at h1
    split at h1
    · rename_i hc
      cases h1
      exact ⟨Nat.le_refl _, Or.inr ⟨rfl, hc.1⟩, hc.2, Nat.mod_eq_of_lt hR⟩
    · cases h1
  | succ g ih =>
    intro k q b hf h1
    unfold fnd at h1
    split at h1
    · rename_i hc
      cases h1
      exact ⟨Nat.le_refl _, Or.inl (by omega), hc, bg_mod hR hR2 (hf k (by omega))⟩
    · obtain ⟨a1, a2, a3, a4⟩ := ih (k + 1) q b (fun j hj => hf j (by omega)) h1
      exact ⟨by omega, by omega, a3, a4⟩
abbrev CS : Type := Nat × (Nat → Nat)
def stp (L R p h m : Nat) (s : CS) : Option ((Nat × Nat) × CS) := match fnd L R p h m s.2 s.1 0 with
  | none => none
  | some q => some (q, (if q.1 = s.1 then s.1 + 1 else s.1, fun j => if j = q.1 then q.2 + h else s.2 j))
/-- the bounds of a state of cutting -/
def SOK (L R p m : Nat) (s : CS) : Prop := s.1 ≤ m ∧ m ≤ 20 ∧ L ≤ 200 ∧ R ≤ 10 ∧ p < R ∧ ∀ k, k < s.1 → s.2 k ≤ L
theorem stp_ok {L R p h m : Nat} {s s' : CS} {q : Nat × Nat} (hs : SOK L R p m s) (h1 : stp L R p h m s = some (q, s')) : SOK L R p m s' ∧ q.1 < 20 ∧ q.2 + h ≤ L ∧ q.2 % R = p ∧ q.1 < s'.1 ∧ s.1 ≤ s'.1 ∧ fnd L R p h m s.2 s.1 0 = some q ∧ s' = (if q.1 = s.1 then s.1 + 1 else s.1, fun j => if j = q.1 then q.2 + h else s.2 j) := by
  obtain ⟨k1, k2, k3, k4, k5, k6⟩ := hs
  unfold stp at h1
  split at h1
  · cases h1
  · rename_i q' hq
    cases h1
    obtain ⟨a1, a2, a3, a4⟩ := fnd_ok k5 k4 s.1 0 q.1 q.2 (fun j hj => Nat.le_trans (k6 j (by omega)) k3) hq
    refine ⟨⟨?_, k2, k3, k4, k5, fun k hk => ?_⟩, by omega, a3, a4, ?_, ?_, hq, rfl⟩
    · show (if q.1 = s.1 then s.1 + 1 else s.1) ≤ m
      split <;> omega
    · show (if k = q.1 then q.2 + h else s.2 k) ≤ L
      have hk : k < (if q.1 = s.1 then s.1 + 1 else s.1) := hk
      split
      · omega
      · refine k6 k ?_
        split at hk <;> omega
    · show q.1 < (if q.1 = s.1 then s.1 + 1 else s.1)
      split <;> omega
    · show s.1 ≤ (if q.1 = s.1 then s.1 + 1 else s.1)
      split <;> omega
/-- the roll that gives a drop was not cut beyond it -/
theorem fnd_ge {L R p h m : Nat} {f : Nat → Nat} : ∀ g k q b, fnd L R p h m f g k = some (q, b) → q < k + g → f q ≤ b := by
  intro g
  induction g with
  | zero =>
    intro k q b h1 hq
    unfold fnd at h1
    split at h1
    · cases h1
      omega
    · cases h1
  | succ g ih =>
    intro k q b h1 hq
    unfold fnd at h1
    split at h1
    · cases h1
      unfold bg
      omega
    · exact ih (k + 1) q b h1 (by omega)
theorem nsum_upd {f : Nat → Nat} {q v : Nat} : ∀ n, q < n → nsum (fun j => if j = q then v else f j) n + f q = nsum f n + v := by
  intro n
  induction n with
  | zero => intro h; omega
  | succ n ih =>
    intro h
    by_cases g : q = n
    · subst g
      have e := nsum_congr (f := fun j => if j = q then v else f j) (g := f) q (fun w hw => if_neg (by omega))
      show nsum (fun j => if j = q then v else f j) q + (if q = q then v else f q) + f q = nsum f q + f q + v
      rw [e, if_pos rfl]
      omega
    · have i := ih (by omega)
      show nsum (fun j => if j = q then v else f j) n + (if n = q then v else f n) + f q = nsum f n + f n + v
      rw [if_neg (by omega)]
      omega
/-- the rows cut grow by at least a drop's -/
theorem stp_sum {L R p h m : Nat} {s s' : CS} {q : Nat × Nat} (hs : SOK L R p m s) (h1 : stp L R p h m s = some (q, s')) : nsum s.2 s.1 + h ≤ nsum s'.2 s'.1 := by
  obtain ⟨o1, o2, o3, o4, o5, o6, o7, o8⟩ := stp_ok hs h1
  by_cases g : q.1 = s.1
  · have e1 : s'.1 = s.1 + 1 := by rw [o8]; exact if_pos g
    have e2 : nsum s'.2 s'.1 = nsum s.2 s.1 + (q.2 + h) := by
      rw [e1]
      show nsum s'.2 s.1 + s'.2 s.1 = _
      rw [o8]
      rw [nsum_congr (f := (fun j => if j = q.1 then q.2 + h else s.2 j)) (g := s.2) s.1 (fun w hw => if_neg (by omega))]
      show nsum s.2 s.1 + (if s.1 = q.1 then q.2 + h else s.2 s.1) = _
      rw [if_pos g.symm]
    omega
  · have hlt : q.1 < s.1 := by
      have e1 : s'.1 = s.1 := by rw [o8]; exact if_neg g
      omega
    have e1 : s'.1 = s.1 := by rw [o8]; exact if_neg g
    have e2 : s'.2 = fun j => if j = q.1 then q.2 + h else s.2 j := by rw [o8]
    have f1 := fnd_ge s.1 0 q.1 q.2 o7 (by omega)
    have f2 := nsum_upd (f := s.2) (q := q.1) (v := q.2 + h) s.1 hlt
    rw [e1, e2]
    omega
/-- the class's opened rolls of the room r -/
def CKS (A : Adr) (iv : IVt) (rv : RVt) (r L R p m : Nat) (s : CS) : Prop := A.2.2 14 r = true ∧ A.2.2 15 r = true ∧ rv 14 r 0 = some (15, r) ∧ iv 14 r 1 = nI s.1 ∧ iv 14 r 2 = nI m ∧ iv 14 r 3 = nI L ∧ iv 14 r 4 = nI R ∧ iv 14 r 5 = nI p ∧ (∀ k, k < s.1 → iv 15 r k = nI (s.2 k)) ∧ SOK L R p m s
section CU
variable {A : Adr} {iv : IVt} {rv : RVt} {ov : Nat → Int64} {z r L R p m h : Nat} {s : CS}
theorem newroll_spec (hA : IN A) (hC : CKS A iv rv r L R p m s) (hh : h ≤ 60) : (s.1 < m ∧ p + h ≤ L → F_X2_takeFromNewRoll (A.1 14 r) (nI h) (z, hv A iv rv ov) = rtv (nI (1000 * s.1 + p)) (z, hv A (u3 (u3 iv 15 r s.1 (nI (p + h))) 14 r 1 (nI (s.1 + 1))) rv ov)) ∧ (¬ (s.1 < m ∧ p + h ≤ L) → F_X2_takeFromNewRoll (A.1 14 r) (nI h) (z, hv A iv rv ov) = rtv (-1) (z, hv A iv rv ov)) := by
  obtain ⟨l14, l15, w, i1, i2, i3, i4, i5, i6, k1, k2, k3, k4, k5, k6⟩ := hC
  unfold F_X2_takeFromNewRoll F_X2_takeFromNewRoll_b30 F_X2_takeFromNewRoll_b31
  rw [gfI_hv hA l14 (by rfl) (by decide) (by rfl), i1, if_neg (nI_pos (by omega)), gfI_hv hA l14 (by rfl) (by decide) (by rfl), i2]
  refine ⟨fun q => ?_, fun q => ?_⟩
  · rw [if_neg (nI_ge q.1 (by omega)), gfR_hv hA l14 (by rfl) (by decide) (by rfl), w, rfv_s, nn_s, alen_I hA l15 (by rfl), show kn 15 = 20 from rfl, if_neg (nI_ge (by omega) (by omega)), if_neg (by decide), gfI_hv hA l14 (by rfl) (by decide) (by rfl), i5, gfI_hv hA l14 (by rfl) (by decide) (by rfl), i3, nI_add, if_pos (nI_le q.2 (by omega)), gfR_hv hA l14 (by rfl) (by decide) (by rfl), w, rfv_s, gfI_hv hA l14 (by rfl) (by decide) (by rfl), i5, nn_s, nI_add, ast_hv hA l15 (by rfl) (show s.1 < 20 by omega), nI_1, pf_hv hA l14 (by rfl) (by decide) (by rfl), gfI_hv hA l14 (by rfl) (by decide) (by rfl), u3_n (by omega), u3_T (by decide), i5, show (1000 : Int32) = nI 1000 from rfl, pk_mul, nI_add]
  · by_cases q1 : s.1 < m
    · rw [if_neg (nI_ge q1 (by omega)), gfR_hv hA l14 (by rfl) (by decide) (by rfl), w, rfv_s, nn_s, alen_I hA l15 (by rfl), show kn 15 = 20 from rfl, if_neg (nI_ge (by omega) (by omega)), if_neg (by decide), gfI_hv hA l14 (by rfl) (by decide) (by rfl), i5, gfI_hv hA l14 (by rfl) (by decide) (by rfl), i3, nI_add, if_neg (nI_ge (by omega) (by omega))]
    · rw [if_pos (nI_le (by omega) (by omega)), if_pos rfl]
theorem take_b2 (hA : IN A) (hC : CKS A iv rv r L R p m s) (hh : h ≤ 60) : ∀ g k N, k + g = s.1 → g < N →
    (fnd L R p h m s.2 g k = none → F_X2_takeDrop_b2 N (A.1 14 r) (nI h) (nI k) (z, hv A iv rv ov) = rtv (-1) (z, hv A iv rv ov)) ∧
    (∀ q b, fnd L R p h m s.2 g k = some (q, b) → F_X2_takeDrop_b2 N (A.1 14 r) (nI h) (nI k) (z, hv A iv rv ov) = rtv (nI (1000 * q + b)) (z, hv A (if q = s.1 then u3 (u3 iv 15 r q (nI (b + h))) 14 r 1 (nI (q + 1)) else u3 iv 15 r q (nI (b + h))) rv ov)) := by
  have hN := newroll_spec (z := z) (ov := ov) (h := h) hA hC hh
  obtain ⟨l14, l15, w, i1, i2, i3, i4, i5, i6, k1, k2, k3, k4, k5, k6⟩ := id hC
  intro g
  induction g with
  | zero =>
    intro k N hk hN1
    obtain ⟨N, rfl⟩ : ∃ N', N = N' + 1 := ⟨N - 1, by omega⟩
    have hk' : k = s.1 := hk
    subst hk'
    unfold F_X2_takeDrop_b2 F_X2_takeDrop_b78 fnd
    rw [gfI_hv hA l14 (by rfl) (by decide) (by rfl), i1, if_pos (nI_le (Nat.le_refl _) (by omega)), isO_hv hA l14 (by rfl) (by decide)]
    by_cases q : s.1 < m ∧ p + h ≤ L
    · rw [if_pos q, hN.1 q, bnd_v]
      refine ⟨fun x => (by cases x), fun q' b' x => ?_⟩
      cases x
      rw [if_pos rfl]
    · rw [if_neg q, hN.2 q, bnd_v]
      exact ⟨fun _ => rfl, fun q' b' x => by cases x⟩
  | succ g ih =>
    intro k N hk hN1
    obtain ⟨N, rfl⟩ : ∃ N', N = N' + 1 := ⟨N - 1, by omega⟩
    have hkn : k < s.1 := by omega
    have hfk := k6 k hkn
    have hw := wm_lt (v := nI p - nI (s.2 k)) (M := R) (by omega)
    unfold F_X2_takeDrop_b2 fnd
    rw [gfI_hv hA l14 (by rfl) (by decide) (by rfl), i1, if_neg (nI_ge hkn (by omega)), gfR_hv hA l14 (by rfl) (by decide) (by rfl), w, rfv_s, nn_s, alen_I hA l15 (by rfl), show kn 15 = 20 from rfl, if_neg (nI_ge (by omega) (by omega)), gfR_hv hA l14 (by rfl) (by decide) (by rfl), w, rfv_s, nn_s, ald_hv hA l15 (by rfl) (show k < 20 by omega), i6 k hkn, gfI_hv hA l14 (by rfl) (by decide) (by rfl), i5, gfR_hv hA l14 (by rfl) (by decide) (by rfl), w, rfv_s, nn_s, ald_hv hA l15 (by rfl) (show k < 20 by omega), i6 k hkn, gfI_hv hA l14 (by rfl) (by decide) (by rfl), i4, wrap_spec (by omega) (by omega), bnd_v, gfI_hv hA l14 (by rfl) (by decide) (by rfl), i3, nI_add, nI_add]
    have eb : s.2 k + wm (nI p - nI (s.2 k)) R = bg R p (s.2 k) := rfl
    have hb := bg_lt (R := R) (p := p) (e := s.2 k) (by omega)
    rw [eb]
    by_cases q : bg R p (s.2 k) + h ≤ L
    · rw [if_pos q, if_neg (nI_nlt q (by omega)), gfR_hv hA l14 (by rfl) (by decide) (by rfl), w, rfv_s, nn_s, ast_hv hA l15 (by rfl) (show k < 20 by omega), show (1000 : Int32) = nI 1000 from rfl, pk_mul, nI_add]
      refine ⟨fun x => (by cases x), fun q' b' x => ?_⟩
      cases x
      rw [if_neg (by omega)]
    · rw [if_neg q, if_pos (nI_lt (by omega) (by omega)), nI_1]
      exact ih (k + 1) N (by omega) (by omega)
/-- one drop on the class's side -/
theorem take_spec (hA : IN A) (hC : CKS A iv rv r L R p m s) (hh : h ≤ 60) :
    (stp L R p h m s = none → F_X2_takeDrop (A.1 14 r) (nI h) (z, hv A iv rv ov) = rtv (-1) (z, hv A iv rv ov)) ∧
    (∀ q s', stp L R p h m s = some (q, s') → ∃ iv', F_X2_takeDrop (A.1 14 r) (nI h) (z, hv A iv rv ov) = rtv (nI (1000 * q.1 + q.2)) (z, hv A iv' rv ov) ∧ CKS A iv' rv r L R p m s' ∧ ∀ T i j, ¬ (T = 14 ∧ i = r ∧ j = 1) → ¬ (T = 15 ∧ i = r) → iv' T i j = iv T i j) := by
  obtain ⟨l14, l15, w, i1, i2, i3, i4, i5, i6, k0⟩ := id hC
  obtain ⟨k1, k2, k3, k4, k5, k6⟩ := id k0
  obtain ⟨t1, t2⟩ := take_b2 (z := z) (ov := ov) (h := h) hA hC hh s.1 0 1000 (by omega) (by omega)
  refine ⟨fun q => t1 ?_, fun q s' hq => ?_⟩
  · unfold stp at q
    split at q
    · assumption
    · cases q
  · obtain ⟨o1, o2, o3, o4, o5, o6, o7, o8⟩ := stp_ok k0 hq
    have e := t2 q.1 q.2 o7
    refine ⟨_, e, ⟨l14, l15, w, ?_, ?_, ?_, ?_, ?_, fun k hk => ?_, o1⟩, fun T i j x y => ?_⟩
    · rw [o8]
      show _ = nI (if q.1 = s.1 then s.1 + 1 else s.1)
      by_cases g : q.1 = s.1
      · rw [if_pos g, if_pos g, g, u3_s]
      · rw [if_neg g, if_neg g, u3_T (by decide), i1]
    · by_cases g : q.1 = s.1
      · rw [if_pos g, u3_n (by omega), u3_T (by decide), i2]
      · rw [if_neg g, u3_T (by decide), i2]
    · by_cases g : q.1 = s.1
      · rw [if_pos g, u3_n (by omega), u3_T (by decide), i3]
      · rw [if_neg g, u3_T (by decide), i3]
    · by_cases g : q.1 = s.1
      · rw [if_pos g, u3_n (by omega), u3_T (by decide), i4]
      · rw [if_neg g, u3_T (by decide), i4]
    · by_cases g : q.1 = s.1
      · rw [if_pos g, u3_n (by omega), u3_T (by decide), i5]
      · rw [if_neg g, u3_T (by decide), i5]
    · have e2 : s'.2 k = if k = q.1 then q.2 + h else s.2 k := by rw [o8]
      have e3 : s'.1 = if q.1 = s.1 then s.1 + 1 else s.1 := by rw [o8]
      have e4 : (if q.1 = s.1 then u3 (u3 iv 15 r q.1 (nI (q.2 + h))) 14 r 1 (nI (q.1 + 1)) else u3 iv 15 r q.1 (nI (q.2 + h))) 15 r k = u3 iv 15 r q.1 (nI (q.2 + h)) 15 r k := by
        by_cases g : q.1 = s.1
        · rw [if_pos g, u3_T (by decide)]
        · rw [if_neg g]
      rw [e4, e2]
      by_cases g : k = q.1
      · rw [if_pos g, g, u3_s]
      · rw [if_neg g, u3_n (by omega)]
        refine i6 k ?_
        rw [e3] at hk
        split at hk <;> omega
    · by_cases g : q.1 = s.1
      · rw [if_pos g, u3_n (fun w => x ⟨w.1, w.2.1, w.2.2⟩), u3_n (fun w => y ⟨w.1, w.2.1⟩)]
      · rw [if_neg g, u3_n (fun w => y ⟨w.1, w.2.1⟩)]
end CU
