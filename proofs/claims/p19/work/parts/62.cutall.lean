/-! all drops of a wall, of a room: the count, the class's side -/
def drps (L R p h m : Nat) : Nat → Nat → CS → (Nat → Nat × Nat) → Option (CS × (Nat → Nat × Nat))
  | 0, _, s, c => some (s, c)
  | g + 1, d, s, c => match stp L R p h m s with
    | none => none
    | some (q, s') => drps L R p h m g (d + 1) s' (fun j => if j = d then q else c j)
def wls (L R p m : Nat) (D H : Nat → Nat) : Nat → Nat → CS → (Nat → Nat → Nat × Nat) → Option (CS × (Nat → Nat → Nat × Nat))
  | 0, _, s, C => some (s, C)
  | g + 1, w, s, C => match drps L R p (H w) m (D w) 0 s (C w) with
    | none => none
    | some (s', c) => wls L R p m D H g (w + 1) s' (fun j => if j = w then c else C j)
theorem drps_ok {L R p h m : Nat} : ∀ g d s c s' c', SOK L R p m s → drps L R p h m g d s c = some (s', c') → SOK L R p m s' ∧ s.1 ≤ s'.1 ∧ (∀ j, j < d ∨ d + g ≤ j → c' j = c j) ∧ ∀ j, d ≤ j → j < d + g → (c' j).1 < s'.1 ∧ (c' j).2 + h ≤ L ∧ (c' j).2 % R = p := by
  intro g
  induction g with
  | zero =>
    intro d s c s' c' hs h1
    unfold drps at h1
    cases h1
    exact ⟨hs, Nat.le_refl _, fun _ _ => rfl, fun j a b => by omega⟩
  | succ g ih =>
    intro d s c s' c' hs h1
    unfold drps at h1
    split at h1
    · cases h1
    · rename_i q s1 hq
      obtain ⟨o1, o2, o3, o4, o5, o6, -⟩ := stp_ok hs hq
      obtain ⟨i1, i2, i3, i4⟩ := ih (d + 1) s1 _ s' c' o1 h1
      refine ⟨i1, by omega, fun j hj => ?_, fun j a b => ?_⟩
      · rw [i3 j (by omega), if_neg (by omega)]
      · by_cases g : j = d
        · subst g
          rw [i3 j (by omega), if_pos rfl]
          exact ⟨by omega, o3, o4⟩
        · exact i4 j (by omega) (by omega)
theorem wls_ok {L R p m : Nat} {D H : Nat → Nat} : ∀ g w s C s' C', SOK L R p m s → wls L R p m D H g w s C = some (s', C') → SOK L R p m s' ∧ (∀ j, j < w ∨ w + g ≤ j → C' j = C j) ∧ (∀ j d, w ≤ j → j < w + g → d < D j → (C' j d).1 < s'.1 ∧ (C' j d).2 + H j ≤ L ∧ (C' j d).2 % R = p) ∧ s.1 ≤ s'.1 := by
  intro g
  induction g with
  | zero =>
    intro w s C s' C' hs h1
    unfold wls at h1
    cases h1
    exact ⟨hs, fun _ _ => rfl, fun j d a b => by omega, Nat.le_refl _⟩
  | succ g ih =>
    intro w s C s' C' hs h1
    unfold wls at h1
    split at h1
    · cases h1
    · rename_i s1 c hq
      obtain ⟨o1, o2, o3, o4⟩ := drps_ok _ _ _ _ _ _ hs hq
      obtain ⟨i1, i3, i4, i5⟩ := ih (w + 1) s1 _ s' C' o1 h1
      refine ⟨i1, fun j hj => ?_, fun j d a b hd => ?_, by omega⟩
      · rw [i3 j (by omega), if_neg (by omega)]
      · by_cases g : j = w
        · subst g
          rw [i3 j (by omega), if_pos rfl]
          obtain ⟨u1, u2, u3⟩ := o4 d (Nat.zero_le _) (by omega)
          exact ⟨by omega, u2, u3⟩
        · exact i4 j d (by omega) (by omega) hd
theorem drps_sum {L R p h m : Nat} : ∀ g d s c s' c', SOK L R p m s → drps L R p h m g d s c = some (s', c') → nsum s.2 s.1 + g * h ≤ nsum s'.2 s'.1 := by
  intro g
  induction g with
  | zero =>
    intro d s c s' c' hs h1
    unfold drps at h1
    cases h1
    omega
  | succ g ih =>
    intro d s c s' c' hs h1
    unfold drps at h1
    split at h1
    · cases h1
    · rename_i q s1 hq
      have i := ih (d + 1) s1 _ s' c' (stp_ok hs hq).1 h1
      have j := stp_sum hs hq
      rw [Nat.succ_mul]
      omega
theorem wls_sum {L R p m : Nat} {D H : Nat → Nat} : ∀ g w s C s' C', SOK L R p m s → wls L R p m D H g w s C = some (s', C') → nsum s.2 s.1 + nsum (fun j => D j * H j) (w + g) ≤ nsum s'.2 s'.1 + nsum (fun j => D j * H j) w := by
  intro g
  induction g with
  | zero =>
    intro w s C s' C' hs h1
    unfold wls at h1
    cases h1
    exact Nat.le_refl _
  | succ g ih =>
    intro w s C s' C' hs h1
    unfold wls at h1
    split at h1
    · cases h1
    · rename_i s1 c hq
      have i := ih (w + 1) s1 _ s' C' (drps_ok _ _ _ _ _ _ hs hq).1 h1
      have j := drps_sum _ _ _ _ _ _ hs hq
      have e : nsum (fun j => D j * H j) (w + 1) = nsum (fun j => D j * H j) w + D w * H w := rfl
      rw [show w + (g + 1) = w + 1 + g by omega]
      omega
/-- how a room's objects hang together: n walls -/
def RW (A : Adr) (rv : RVt) (r n : Nat) : Prop := A.2.2 12 r = true ∧ A.2.2 13 r = true ∧ A.2.2 14 r = true ∧ A.2.2 15 r = true ∧ rv 12 r 0 = some (13, r) ∧ rv 12 r 1 = some (14, r) ∧ rv 14 r 0 = some (15, r) ∧ n ≤ 4 ∧ (∀ w, w < 4 → rv 13 r w = if w < n then some (16, 4 * r + w) else none) ∧ ∀ w, w < n → A.2.2 16 (4 * r + w) = true ∧ A.2.2 17 (4 * r + w) = true ∧ rv 16 (4 * r + w) 1 = some (17, 4 * r + w)
def DH (iv : IVt) (r n : Nat) (D H : Nat → Nat) : Prop := ∀ w, w < n → iv 16 (4 * r + w) 2 = nI (D w) ∧ iv 16 (4 * r + w) 0 = nI (H w) ∧ D w ≤ 24 ∧ H w ≤ 60
section CA
variable {A : Adr} {rv : RVt} {ov : Nat → Int64} {z r L R p m h n : Nat} {D H : Nat → Nat}
theorem CKS.to {iv iv' : IVt} {s : CS} (h : CKS A iv rv r L R p m s) (e14 : ∀ j, iv' 14 r j = iv 14 r j) (e15 : ∀ j, iv' 15 r j = iv 15 r j) : CKS A iv' rv r L R p m s := by
  obtain ⟨l14, l15, w, i1, i2, i3, i4, i5, i6, k0⟩ := h
  exact ⟨l14, l15, w, (e14 1).trans i1, (e14 2).trans i2, (e14 3).trans i3, (e14 4).trans i4, (e14 5).trans i5, fun k hk => (e15 k).trans (i6 k hk), k0⟩
theorem drops_b6 {k Dk : Nat} (hA : IN A) (l16 : A.2.2 16 k = true) (l17 : A.2.2 17 k = true) (hr : rv 16 k 1 = some (17, k)) (hD : Dk ≤ 24) (hh : h ≤ 60) : ∀ g d N, d + g = Dk → g < N → ∀ (iv : IVt) (s : CS) (c : Nat → Nat × Nat), iv 16 k 2 = nI Dk → iv 16 k 0 = nI h → CKS A iv rv r L R p m s →
    (drps L R p h m g d s c = none → ∃ iv', F_X6_takeDrops_b6 N (A.1 16 k) (A.1 14 r) (nI d) (z, hv A iv rv ov) = rtv 0 (z, hv A iv' rv ov) ∧ ∀ T i j, ¬ (T = 14 ∧ i = r ∧ j = 1) → ¬ (T = 15 ∧ i = r) → ¬ (T = 17 ∧ i = k) → iv' T i j = iv T i j) ∧
    (∀ s' c', drps L R p h m g d s c = some (s', c') → ∃ iv', F_X6_takeDrops_b6 N (A.1 16 k) (A.1 14 r) (nI d) (z, hv A iv rv ov) = rtv 1 (z, hv A iv' rv ov) ∧ (∀ T i j, ¬ (T = 14 ∧ i = r ∧ j = 1) → ¬ (T = 15 ∧ i = r) → ¬ (T = 17 ∧ i = k) → iv' T i j = iv T i j) ∧ CKS A iv' rv r L R p m s' ∧ (∀ j, d ≤ j → j < Dk → iv' 17 k j = nI (1000 * (c' j).1 + (c' j).2)) ∧ ∀ j, j < d → iv' 17 k j = iv 17 k j) := by
  intro g
  induction g with
  | zero =>
    intro d N hd hN iv s c h2 h0 hC
    obtain ⟨N, rfl⟩ : ∃ N', N = N' + 1 := ⟨N - 1, by omega⟩
    unfold F_X6_takeDrops_b6 drps
    rw [gfI_hv hA l16 (by rfl) (by decide) (by rfl), h2, if_pos (nI_le (by omega) (by omega))]
    refine ⟨fun x => (by cases x), fun s' c' x => ?_⟩
    cases x
    exact ⟨iv, rfl, fun _ _ _ _ _ _ => rfl, hC, fun j a b => by omega, fun _ _ => rfl⟩
  | succ g ih =>
    intro d N hd hN iv s c h2 h0 hC
    obtain ⟨N, rfl⟩ : ∃ N', N = N' + 1 := ⟨N - 1, by omega⟩
    obtain ⟨l14, l15, w, i1, i2, i3, i4, i5, i6, k0⟩ := id hC
    obtain ⟨t1, t2⟩ := take_spec (z := z) (ov := ov) (h := h) hA hC hh
    unfold F_X6_takeDrops_b6 drps
    rw [gfI_hv hA l16 (by rfl) (by decide) (by rfl), h2, if_neg (nI_ge (by omega) (by omega)), gfR_hv hA l16 (by rfl) (by decide) (by rfl), hr, rfv_s, nn_s, alen_I hA l17 (by rfl), show kn 17 = 24 from rfl, if_neg (nI_ge (by omega) (by omega)), gfR_hv hA l16 (by rfl) (by decide) (by rfl), hr, rfv_s, gfI_hv hA l16 (by rfl) (by decide) (by rfl), h0, isO_hv hA l14 (by rfl) (by decide)]
    cases hst : stp L R p h m s with
    | none =>
      rw [t1 hst, bnd_v, nn_s, ast_hv hA l17 (by rfl) (show d < 24 by omega), gfR_hv hA l16 (by rfl) (by decide) (by rfl), hr, rfv_s, nn_s, ald_hv hA l17 (by rfl) (show d < 24 by omega), u3_s, if_pos rfl]
      refine ⟨fun _ => ⟨_, rfl, fun T i j x1 x2 x3 => u3_n (fun q => x3 ⟨q.1, q.2.1⟩)⟩, fun s' c' x => (by cases x)⟩
    | some qs =>
      obtain ⟨q, s1⟩ := qs
      obtain ⟨iv1, e1, e2, e3⟩ := t2 q s1 hst
      obtain ⟨o1, o2, o3, o4, o5, o6, -⟩ := stp_ok k0 hst
      have hb : 1000 * q.1 + q.2 < 2 ^ 31 := by
        have : L ≤ 200 := k0.2.2.1
        omega
      rw [e1, bnd_v, nn_s, ast_hv hA l17 (by rfl) (show d < 24 by omega), gfR_hv hA l16 (by rfl) (by decide) (by rfl), hr, rfv_s, nn_s, ald_hv hA l17 (by rfl) (show d < 24 by omega), u3_s, if_neg (nI_m1 hb), nI_1]
      have C1 : CKS A (u3 iv1 17 k d (nI (1000 * q.1 + q.2))) rv r L R p m s1 := e2.to (fun _ => u3_T (by decide)) (fun _ => u3_T (by decide))
      obtain ⟨j1, j2⟩ := ih (d + 1) N (by omega) (by omega) (u3 iv1 17 k d (nI (1000 * q.1 + q.2))) s1 (fun j => if j = d then q else c j) (by rw [u3_T (by decide), e3 _ _ _ (by omega) (by omega), h2]) (by rw [u3_T (by decide), e3 _ _ _ (by omega) (by omega), h0]) C1
      refine ⟨fun x => ?_, fun s' c' x => ?_⟩
      · obtain ⟨iv', y1, y2⟩ := j1 x
        exact ⟨iv', y1, fun T i j x1 x2 x3 => by rw [y2 T i j x1 x2 x3, u3_n (fun q => x3 ⟨q.1, q.2.1⟩), e3 T i j x1 x2]⟩
      · obtain ⟨iv', y1, y2, y3, y4, y5⟩ := j2 s' c' x
        refine ⟨iv', y1, fun T i j x1 x2 x3 => by rw [y2 T i j x1 x2 x3, u3_n (fun q => x3 ⟨q.1, q.2.1⟩), e3 T i j x1 x2], y3, fun j a b => ?_, fun j hj => by rw [y5 j (by omega), u3_n (by omega), e3 _ _ _ (by omega) (by omega)]⟩
        by_cases gj : j = d
        · subst gj
          have hc := (drps_ok _ _ _ _ _ _ o1 x).2.2.1 j (by omega)
          rw [if_pos rfl] at hc
          rw [y5 j (by omega), u3_s, hc]
        · exact y4 j (by omega) b
theorem drops6_spec {k Dk d : Nat} {iv : IVt} {s : CS} (c : Nat → Nat × Nat) (hA : IN A) (l16 : A.2.2 16 k = true) (l17 : A.2.2 17 k = true) (hr : rv 16 k 1 = some (17, k)) (hD : Dk ≤ 24) (hh : h ≤ 60) (hd : d ≤ Dk) (h2 : iv 16 k 2 = nI Dk) (h0 : iv 16 k 0 = nI h) (hC : CKS A iv rv r L R p m s) :
    (drps L R p h m (Dk - d) d s c = none → ∃ iv', F_X6_takeDrops (A.1 16 k) (A.1 14 r) (nI d) (z, hv A iv rv ov) = rtv 0 (z, hv A iv' rv ov) ∧ ∀ T i j, ¬ (T = 14 ∧ i = r ∧ j = 1) → ¬ (T = 15 ∧ i = r) → ¬ (T = 17 ∧ i = k) → iv' T i j = iv T i j) ∧
    (∀ s' c', drps L R p h m (Dk - d) d s c = some (s', c') → ∃ iv', F_X6_takeDrops (A.1 16 k) (A.1 14 r) (nI d) (z, hv A iv rv ov) = rtv 1 (z, hv A iv' rv ov) ∧ (∀ T i j, ¬ (T = 14 ∧ i = r ∧ j = 1) → ¬ (T = 15 ∧ i = r) → ¬ (T = 17 ∧ i = k) → iv' T i j = iv T i j) ∧ CKS A iv' rv r L R p m s' ∧ (∀ j, d ≤ j → j < Dk → iv' 17 k j = nI (1000 * (c' j).1 + (c' j).2)) ∧ ∀ j, j < d → iv' 17 k j = iv 17 k j) := by
  have e : F_X6_takeDrops (A.1 16 k) (A.1 14 r) (nI d) (z, hv A iv rv ov) = F_X6_takeDrops_b6 1000 (A.1 16 k) (A.1 14 r) (nI d) (z, hv A iv rv ov) := by
    unfold F_X6_takeDrops F_J9_max_7cf53
    rw [if_neg (nI_pos (by omega)), bnd_v]
  rw [e]
  exact drops_b6 hA l16 l17 hr hD hh (Dk - d) d 1000 (by omega) (by omega) iv s c h2 h0 hC
theorem cut_skip {iv : IVt} (hA : IN A) (hW : RW A rv r n) : ∀ g w N, w + g = 4 → n ≤ w → g < N → F_X5_cutAll_b21 N (A.1 12 r) (some (A.1 13 r)) (nI 4) (nI w) (z, hv A iv rv ov) = rtv 1 (z, hv A iv rv ov) := by
  obtain ⟨g1, g2, g3, g4, g5, g6, g7, g8, g9, g10⟩ := hW
  intro g
  induction g with
  | zero =>
    intro w N hw hn hN
    obtain ⟨N, rfl⟩ : ∃ N', N = N' + 1 := ⟨N - 1, by omega⟩
    unfold F_X5_cutAll_b21
    rw [if_pos (nI_le (by omega) (by omega))]
    rfl
  | succ g ih =>
    intro w N hw hn hN
    obtain ⟨N, rfl⟩ : ∃ N', N = N' + 1 := ⟨N - 1, by omega⟩
    unfold F_X5_cutAll_b21 F_X5_cutAll_b54
    rw [if_neg (nI_ge (by omega) (by omega)), nn_s, aldR_hv (q := 4) hA g2 (by rfl) (show w < 4 by omega), g9 w (by omega), if_neg (by omega), rfv_n, nlc_n, nI_1, ih (w + 1) N (by omega) (by omega) (by omega)]
theorem cut_b21 (hA : IN A) (hW : RW A rv r n) : ∀ g w N, w + g = n → 4 < w + N → ∀ (iv : IVt) (s : CS) (C : Nat → Nat → Nat × Nat), DH iv r n D H → CKS A iv rv r L R p m s →
    (wls L R p m D H g w s C = none → ∃ iv', F_X5_cutAll_b21 N (A.1 12 r) (some (A.1 13 r)) (nI 4) (nI w) (z, hv A iv rv ov) = rtv 0 (z, hv A iv' rv ov) ∧ ∀ T i j, ¬ (T = 14 ∧ i = r ∧ j = 1) → ¬ (T = 15 ∧ i = r) → ¬ (T = 17 ∧ 4 * r ≤ i ∧ i < 4 * r + 4) → iv' T i j = iv T i j) ∧
    (∀ s' C', wls L R p m D H g w s C = some (s', C') → ∃ iv', F_X5_cutAll_b21 N (A.1 12 r) (some (A.1 13 r)) (nI 4) (nI w) (z, hv A iv rv ov) = rtv 1 (z, hv A iv' rv ov) ∧ (∀ T i j, ¬ (T = 14 ∧ i = r ∧ j = 1) → ¬ (T = 15 ∧ i = r) → ¬ (T = 17 ∧ 4 * r ≤ i ∧ i < 4 * r + 4) → iv' T i j = iv T i j) ∧ CKS A iv' rv r L R p m s' ∧ (∀ w' j, w ≤ w' → w' < n → j < D w' → iv' 17 (4 * r + w') j = nI (1000 * (C' w' j).1 + (C' w' j).2)) ∧ ∀ w' j, w' < w → iv' 17 (4 * r + w') j = iv 17 (4 * r + w') j) := by
  obtain ⟨g1, g2, g3, g4, g5, g6, g7, g8, g9, g10⟩ := id hW
  intro g
  induction g with
  | zero =>
    intro w N hw hN iv s C hD hC
    unfold wls
    have hs := cut_skip (z := z) (ov := ov) (iv := iv) hA hW (4 - w) w N (by omega) (by omega) (by omega)
    refine ⟨fun x => (by cases x), fun s' c' x => ?_⟩
    cases x
    exact ⟨iv, hs, fun _ _ _ _ _ _ => rfl, hC, fun w' j a b => by omega, fun _ _ _ => rfl⟩
  | succ g ih =>
    intro w N hw hN iv s C hD hC
    obtain ⟨N, rfl⟩ : ∃ N', N = N' + 1 := ⟨N - 1, by omega⟩
    obtain ⟨y1, y2, y3⟩ := g10 w (by omega)
    obtain ⟨d1, d2, d3, d4⟩ := hD w (by omega)
    have k0 : SOK L R p m s := hC.2.2.2.2.2.2.2.2.2
    obtain ⟨t1, t2⟩ := drops6_spec (z := z) (ov := ov) (C w) hA y1 y2 y3 d3 d4 (Nat.zero_le _) d1 d2 hC
    rw [Nat.sub_zero] at t1 t2
    unfold F_X5_cutAll_b21 F_X5_cutAll_b54 wls
    rw [if_neg (nI_ge (by omega) (by omega)), nn_s, aldR_hv (q := 4) hA g2 (by rfl) (show w < 4 by omega), g9 w (by omega), if_pos (by omega), rfv_s, nlc_s, gfR_hv hA g1 (by rfl) (by decide) (by rfl), g6, rfv_s, nn_s, isO_hv hA y1 (by rfl) (by decide), show (0 : Int32) = nI 0 from rfl]
    cases hst : drps L R p (H w) m (D w) 0 s (C w) with
    | none =>
      obtain ⟨iv', e1, e2⟩ := t1 hst
      rw [e1]
      refine ⟨fun _ => ⟨iv', rfl, fun T i j x1 x2 x3 => e2 T i j x1 x2 (fun q => x3 (by omega))⟩, fun s' c' x => (by cases x)⟩
    | some qs =>
      obtain ⟨s1, c⟩ := qs
      obtain ⟨iv1, e1, e2, e3, e4, e5⟩ := t2 s1 c hst
      have o1 := (drps_ok _ _ _ _ _ _ k0 hst).1
      rw [e1, bnd_v, if_neg (by decide), nI_1]
      have D1 : DH iv1 r n D H := fun w' hw' => by
        rw [e2 _ _ _ (by omega) (by omega) (by omega), e2 _ _ _ (by omega) (by omega) (by omega)]
        exact hD w' hw'
      obtain ⟨j1, j2⟩ := ih (w + 1) N (by omega) (by omega) iv1 s1 (fun j => if j = w then c else C j) D1 e3
      refine ⟨fun x => ?_, fun s' C' x => ?_⟩
      · obtain ⟨iv', z1, z2⟩ := j1 x
        exact ⟨iv', z1, fun T i j x1 x2 x3 => (z2 T i j x1 x2 x3).trans (e2 T i j x1 x2 (fun q => x3 (by omega)))⟩
      · obtain ⟨iv', z1, z2, z3, z4, z5⟩ := j2 s' C' x
        refine ⟨iv', z1, fun T i j x1 x2 x3 => (z2 T i j x1 x2 x3).trans (e2 T i j x1 x2 (fun q => x3 (by omega))), z3, fun w' j a b hj => ?_, fun w' j hj => (z5 w' j (by omega)).trans (e2 _ _ _ (by omega) (by omega) (by omega))⟩
        by_cases gj : w' = w
        · subst gj
          have hc := (wls_ok _ _ _ _ _ _ o1 x).2.1 w' (by omega)
          rw [if_pos rfl] at hc
          rw [z5 w' j (by omega), e4 j (Nat.zero_le _) hj, hc]
        · exact z4 w' j (by omega) b hj
/-- a room cut by a phase, on the class's side -/
theorem cutall_spec {l q : Nat} {iv : IVt} (C : Nat → Nat → Nat × Nat) (hA : IN A) (hW : RW A rv r n) (hD : DH iv r n D H) (l11 : A.2.2 11 l = true) (l8 : A.2.2 8 q = true) (l9 : A.2.2 9 q = true) (r11 : rv 11 l 0 = some (8, q)) (r8 : rv 8 q 1 = some (9, q)) (i4 : iv 11 l 4 = nI m) (i3 : iv 11 l 3 = nI L) (i9 : iv 9 q 1 = nI R) (hm : m ≤ 20) (hL : L ≤ 200) (hR : R ≤ 10) (hp : p < R) :
    (wls L R p m D H n 0 (0, fun _ => 0) C = none → ∃ iv', F_X5_cutAll (A.1 12 r) (A.1 11 l) (nI p) (z, hv A iv rv ov) = rtv 0 (z, hv A iv' rv ov) ∧ ∀ T i j, ¬ (T = 14 ∧ i = r) → ¬ (T = 15 ∧ i = r) → ¬ (T = 17 ∧ 4 * r ≤ i ∧ i < 4 * r + 4) → iv' T i j = iv T i j) ∧
    (∀ s' C', wls L R p m D H n 0 (0, fun _ => 0) C = some (s', C') → ∃ iv', F_X5_cutAll (A.1 12 r) (A.1 11 l) (nI p) (z, hv A iv rv ov) = rtv 1 (z, hv A iv' rv ov) ∧ (∀ T i j, ¬ (T = 14 ∧ i = r) → ¬ (T = 15 ∧ i = r) → ¬ (T = 17 ∧ 4 * r ≤ i ∧ i < 4 * r + 4) → iv' T i j = iv T i j) ∧ CKS A iv' rv r L R p m s' ∧ ∀ w' j, w' < n → j < D w' → iv' 17 (4 * r + w') j = nI (1000 * (C' w' j).1 + (C' w' j).2)) := by
  obtain ⟨g1, g2, g3, g4, g5, g6, g7, g8, g9, g10⟩ := id hW
  have C1 : CKS A (u3 (u3 (u3 (u3 (u3 iv 14 r 1 0) 14 r 2 (nI m)) 14 r 3 (nI L)) 14 r 4 (nI R)) 14 r 5 (nI p)) rv r L R p m (0, fun _ => 0) := ⟨g3, g4, g7, by simp [u3]; rfl, by simp [u3], by simp [u3], by simp [u3], by simp [u3], fun k hk => absurd hk (Nat.not_lt_zero k), Nat.zero_le _, hm, hL, hR, hp, fun k hk => absurd hk (Nat.not_lt_zero k)⟩
  have D1 : DH (u3 (u3 (u3 (u3 (u3 iv 14 r 1 0) 14 r 2 (nI m)) 14 r 3 (nI L)) 14 r 4 (nI R)) 14 r 5 (nI p)) r n D H := fun w hw => by
    have := hD w hw
    simpa [u3] using this
  have e : F_X5_cutAll (A.1 12 r) (A.1 11 l) (nI p) (z, hv A iv rv ov) = F_X5_cutAll_b21 1000 (A.1 12 r) (some (A.1 13 r)) (nI 4) (nI 0) (z, hv A (u3 (u3 (u3 (u3 (u3 iv 14 r 1 0) 14 r 2 (nI m)) 14 r 3 (nI L)) 14 r 4 (nI R)) 14 r 5 (nI p)) rv ov) := by
    unfold F_X5_cutAll F_X2_beginAnew
    rw [gfR_hv hA g1 (by rfl) (by decide) (by rfl), g6, rfv_s, nn_s, isO_hv hA g3 (by rfl) (by decide), pf_hv hA g3 (by rfl) (by decide) (by rfl), gfI_hv hA l11 (by rfl) (by decide) (by rfl), u3_T (by decide), i4, pf_hv hA g3 (by rfl) (by decide) (by rfl), gfI_hv hA l11 (by rfl) (by decide) (by rfl), u3_T (by decide), u3_T (by decide), i3, pf_hv hA g3 (by rfl) (by decide) (by rfl), gfR_hv hA l11 (by rfl) (by decide) (by rfl), r11, rfv_s, nn_s, gfR_hv hA l8 (by rfl) (by decide) (by rfl), r8, rfv_s, nn_s, gfI_hv hA l9 (by rfl) (by decide) (by rfl), u3_T (by decide), u3_T (by decide), u3_T (by decide), i9, pf_hv hA g3 (by rfl) (by decide) (by rfl), pf_hv hA g3 (by rfl) (by decide) (by rfl), bnd_v, gfR_hv hA g1 (by rfl) (by decide) (by rfl), g5, rfv_s, nn_s, alen_R (k := 4) hA g2 (by rfl) (by decide), show kn 13 = 4 from rfl]
    rfl
  have ef : ∀ T i j, ¬ (T = 14 ∧ i = r) → u3 (u3 (u3 (u3 (u3 iv 14 r 1 0) 14 r 2 (nI m)) 14 r 3 (nI L)) 14 r 4 (nI R)) 14 r 5 (nI p) T i j = iv T i j := fun T i j x => by
    rw [u3_n (fun q => x ⟨q.1, q.2.1⟩), u3_n (fun q => x ⟨q.1, q.2.1⟩), u3_n (fun q => x ⟨q.1, q.2.1⟩), u3_n (fun q => x ⟨q.1, q.2.1⟩), u3_n (fun q => x ⟨q.1, q.2.1⟩)]
  obtain ⟨t1, t2⟩ := cut_b21 (z := z) (ov := ov) hA hW n 0 1000 (by omega) (by omega) _ _ C D1 C1
  rw [e]
  refine ⟨fun x => ?_, fun s' C' x => ?_⟩
  · obtain ⟨iv', y1, y2⟩ := t1 x
    exact ⟨iv', y1, fun T i j x1 x2 x3 => (y2 T i j (fun q => x1 ⟨q.1, q.2.1⟩) x2 x3).trans (ef T i j x1)⟩
  · obtain ⟨iv', y1, y2, y3, y4, y5⟩ := t2 s' C' x
    exact ⟨iv', y1, fun T i j x1 x2 x3 => (y2 T i j (fun q => x1 ⟨q.1, q.2.1⟩) x2 x3).trans (ef T i j x1), y3, fun w' j a b => y4 w' j (Nat.zero_le _) a b⟩
end CA
