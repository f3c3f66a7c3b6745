/-! lengthen: the reference's loops; the invariant afterwards -/
def MFQ (k d : Nat) (iv iv' : IVt) : Prop := ∀ T i j, ¬ (T = 20 ∧ (j = 23 ∨ j = 24 ∨ j = 25)) → T ≠ 39 → ¬ ((T = 40 ∨ T = 41) ∧ 24 * k + d ≤ j ∧ j < 24 * k + 24) → iv' T i j = iv T i j
theorem MFQ.rfl {k d : Nat} {iv : IVt} : MFQ k d iv iv := fun _ _ _ _ _ _ => Eq.refl _
theorem MFQ.at {k d T i j : Nat} {iv iv1 : IVt} (h1 : MFQ k d iv iv1) (hT : T ≠ 20 ∧ T ≠ 39 ∧ T ≠ 40 ∧ T ≠ 41) : iv1 T i j = iv T i j := h1 T i j (fun q => hT.1 q.1) hT.2.1 (fun q => q.1.elim hT.2.2.1 hT.2.2.2)
theorem MFQ.trans {k d d2 : Nat} {iv iv1 iv2 : IVt} (h1 : MFQ k d iv iv1) (h2 : MFQ k d2 iv1 iv2) (hd : d ≤ d2) : MFQ k d iv iv2 := fun T i j a b c => (h2 T i j a b (fun q => c ⟨q.1, by omega, q.2.2⟩)).trans (h1 T i j a b c)
section LE
variable {A : Adr} {iv : IVt} {rv : RVt} {ov : Nat → Int64} {z r l L R p m h k D d o kk N : Nat}
/-- the ends of the room's rolls, copied to be tried -/
theorem mtried (hM : MD A rv) (hr : r < 4) (ho : o ≤ 20) (hk : k < 16) : ∀ g j N, j + g = o → g < N → ∀ (iv : IVt), ∃ iv', (∀ z ov, F_X8_lengthen_b125 N (A.1 20 0) (nI r) (nI d) (nI k) (nI l) (nI o) (nI j) (z, hv A iv rv ov) = F_X8_lengthen_b169 1000 (A.1 20 0) (nI r) (nI d) (nI k) (nI l) (nI o) 1 (iv 33 0 k) (z, hv A iv' rv ov)) ∧ (∀ T i t, T ≠ 39 → iv' T i t = iv T i t) ∧ (∀ t, j ≤ t → t < o → iv' 39 0 t = iv 38 0 (20 * r + t)) ∧ ∀ t, t < j → iv' 39 0 t = iv 39 0 t := by
  intro g
  induction g with
  | zero =>
    intro j N hj hN iv
    obtain ⟨N, rfl⟩ : ∃ N', N = N' + 1 := ⟨N - 1, by omega⟩
    refine ⟨iv, fun z ov => ?_, fun _ _ _ _ => rfl, fun t a b => by omega, fun _ _ => rfl⟩
    unfold F_X8_lengthen_b125
    rw [if_pos (nI_le (by omega) (by omega)), mR16 hM, nn_s, mA16 hM hk]
  | succ g ih =>
    intro j N hj hN iv
    obtain ⟨N, rfl⟩ : ∃ N', N = N' + 1 := ⟨N - 1, by omega⟩
    obtain ⟨iv', i1, i2, i3, i4⟩ := ih (j + 1) N (by omega) (by omega) (u3 iv 39 0 j (iv 38 0 (20 * r + j)))
    refine ⟨iv', fun z ov => ?_, fun T i t x => (i2 T i t x).trans (u3_T x), fun t a b => ?_, fun t a => ?_⟩
    · unfold F_X8_lengthen_b125
      rw [if_neg (nI_ge (by omega) (by omega)), mR22 hM, mR21 hM, nn_s, show (20 : Int32) = nI 20 from rfl, pk_mul, nI_add, mA21 hM (by omega), nn_s, mS22 hM (by omega), nI_1, i1 z ov, u3_T (by decide)]
    · by_cases q : t = j
      · subst q
        rw [i4 t (by omega), u3_s]
      · rw [i3 t (by omega) b, u3_T (by decide)]
    · rw [i4 t (by omega), u3_n (by omega)]
theorem mlen0 {y : Int32} (hM : MD A rv) (hk : k < 16) : F_X8_lengthen_b169 (N + 1) (A.1 20 0) (nI r) (nI d) (nI k) (nI l) (nI o) 0 y (z, hv A iv rv ov) = F_X8_lengthen_b259 (A.1 20 0) (nI r) (nI d) (nI k) (nI l) (nI o) 0 (z, hv A iv rv ov) := by
  unfold F_X8_lengthen_b169
  rw [mR16 hM, nn_s, mA16 hM hk]
  by_cases q : iv 33 0 k + nI d ≤ y
  · rw [if_pos q]
  · rw [if_neg q, if_pos rfl]
theorem mlenS {t : Nat} {K : hpT → Rs Int32} (hM : MD A rv) (hk : k < 16) (ht : t < 24) : (gfR (z, hv A iv rv ov) (A.1 20 0) 8 26 fun r50 => gfI (z, hv A iv rv ov) (A.1 20 0) 8 24 fun x51 => nn r50 fun a52 => ast (z, hv A iv rv ov) a52 ((24 * nI k) + nI t) x51 fun h53 => gfR h53 (A.1 20 0) 8 27 fun r54 => gfI h53 (A.1 20 0) 8 25 fun x55 => nn r54 fun a56 => ast h53 a56 ((24 * nI k) + nI t) x55 K) = K (z, hv A (u3 (u3 iv 40 0 (24 * k + t) (iv 20 0 24)) 41 0 (24 * k + t) (iv 20 0 25)) rv ov) := by
  rw [mR26 hM, mI24 hM, nn_s, show (24 : Int32) = nI 24 from rfl, pk_mul, nI_add, mS26 hM (by omega), mR27 hM, mI25 hM, u3_T (by decide), nn_s, mS27 hM (by omega)]
/-- the new drops on the reference's side -/
theorem mlen169 (hM : MD A rv) (hr : r < 4) (hk : k < 16) (hD : D + d ≤ 24) (hh : h ≤ 60) (hm : m = o + kk) : ∀ g t N, t + g = D + d → g < N → ∀ (iv : IVt) (s : CS) (c : Nat → Nat × Nat), iv 33 0 k = nI D → iv 34 0 k = nI h → iv 36 0 r = nI p → iv 30 0 l = nI kk → MLT iv l L R → MKS iv s → SOK L R p m s →
    (drps L R p h m g t s c = none → ∃ iv', (∀ z ov, F_X8_lengthen_b169 N (A.1 20 0) (nI r) (nI d) (nI k) (nI l) (nI o) 1 (nI t) (z, hv A iv rv ov) = F_X8_lengthen_b259 (A.1 20 0) (nI r) (nI d) (nI k) (nI l) (nI o) 0 (z, hv A iv' rv ov)) ∧ MFQ k t iv iv') ∧
    (∀ s' c', drps L R p h m g t s c = some (s', c') → ∃ iv', (∀ z ov, F_X8_lengthen_b169 N (A.1 20 0) (nI r) (nI d) (nI k) (nI l) (nI o) 1 (nI t) (z, hv A iv rv ov) = F_X8_lengthen_b259 (A.1 20 0) (nI r) (nI d) (nI k) (nI l) (nI o) 1 (z, hv A iv' rv ov)) ∧ MFQ k t iv iv' ∧ MKS iv' s' ∧ ∀ j, t ≤ j → j < D + d → iv' 40 0 (24 * k + j) = nI (c' j).1 ∧ iv' 41 0 (24 * k + j) = nI (c' j).2) := by
  intro g
  induction g with
  | zero =>
    intro t N ht hN iv s c e33 e34 e36 e30 hL hC hs
    obtain ⟨N, rfl⟩ : ∃ N', N = N' + 1 := ⟨N - 1, by omega⟩
    unfold drps
    refine ⟨fun x => (by cases x), fun s' c' x => ?_⟩
    cases x
    refine ⟨iv, fun z ov => ?_, MFQ.rfl, hC, fun j a b => by omega⟩
    unfold F_X8_lengthen_b169
    rw [mR16 hM, nn_s, mA16 hM hk, e33, nI_add D d, if_pos (nI_le (by omega) (by omega))]
  | succ g ih =>
    intro t N ht hN iv s c e33 e34 e36 e30 hL hC hs
    obtain ⟨N, rfl⟩ : ∃ N', N = N' + 1 := ⟨N - 1, by omega⟩
    obtain ⟨t1, t2⟩ := give_spec hM hL hC hs hh
    obtain ⟨a1, -⟩ := id hL
    subst hm
    have head : ∀ z ov, F_X8_lengthen_b169 (N + 1) (A.1 20 0) (nI r) (nI d) (nI k) (nI l) (nI o) 1 (nI t) (z, hv A iv rv ov) = bnd (F_X8_give (A.1 20 0) (nI l) (nI p) (nI (o + kk)) (nI h) (z, hv A iv rv ov)) fun x49 h49 => gfR h49 (A.1 20 0) 8 26 fun r50 => gfI h49 (A.1 20 0) 8 24 fun x51 => nn r50 fun a52 => ast h49 a52 ((24 * nI k) + nI t) x51 fun h53 => gfR h53 (A.1 20 0) 8 27 fun r54 => gfI h53 (A.1 20 0) 8 25 fun x55 => nn r54 fun a56 => ast h53 a56 ((24 * nI k) + nI t) x55 fun h57 => F_X8_lengthen_b169 N (A.1 20 0) (nI r) (nI d) (nI k) (nI l) (nI o) x49 (nI t + 1) h57 := by
      intro z ov
      unfold F_X8_lengthen_b169
      rw [mR16 hM, nn_s, mA16 hM hk, e33, nI_add D d, if_neg (nI_ge (by omega) (by omega)), if_neg (by decide), mR19 hM, nn_s, mA19 hM hr, e36, mR13 hM, nn_s, mA13 hM a1, e30, mR17 hM, nn_s, mA17 hM hk, e34, nI_add o kk, mO hM]
      cases N <;> rfl
    unfold drps
    cases hst : stp L R p h (o + kk) s with
    | none =>
      refine ⟨fun _ => ⟨u3 (u3 iv 40 0 (24 * k + t) (iv 20 0 24)) 41 0 (24 * k + t) (iv 20 0 25), fun z ov => ?_, fun T i j x1 x2 x3 => by rw [u3_n (by omega), u3_n (by omega)]⟩, fun s' c' x => (by cases x)⟩
      obtain ⟨N, rfl⟩ : ∃ N', N = N' + 1 := ⟨N - 1, by omega⟩
      rw [head, t1 hst, bnd_v, mlenS hM hk (by omega), mlen0 hM hk]
    | some qs =>
      obtain ⟨q, s1⟩ := qs
      obtain ⟨iv1, y1, y2, y3, y4, y5⟩ := t2 q s1 hst
      obtain ⟨o1, -⟩ := stp_ok hs hst
      have F2 : MFQ k t iv (u3 (u3 iv1 40 0 (24 * k + t) (nI q.1)) 41 0 (24 * k + t) (nI q.2)) := fun T i j x1 x2 x3 => by
        rw [u3_n (by omega), u3_n (by omega)]
        exact y5 T i j x1 x2
      have K1 : MKS (u3 (u3 iv1 40 0 (24 * k + t) (nI q.1)) 41 0 (24 * k + t) (nI q.2)) s1 := ⟨by rw [u3_T (by decide), u3_T (by decide)]; exact y2.1, fun j hj => by rw [u3_T (by decide), u3_T (by decide)]; exact y2.2 j hj⟩
      obtain ⟨j1, j2⟩ := ih (t + 1) N (by omega) (by omega) (u3 (u3 iv1 40 0 (24 * k + t) (nI q.1)) 41 0 (24 * k + t) (nI q.2)) s1 (fun j => if j = t then q else c j) ((F2.at (by decide)).trans e33) ((F2.at (by decide)).trans e34) ((F2.at (by decide)).trans e36) ((F2.at (by decide)).trans e30) (hL.to (fun T j hT => F2.at (by omega))) K1 o1
      have head2 : ∀ z ov, F_X8_lengthen_b169 (N + 1) (A.1 20 0) (nI r) (nI d) (nI k) (nI l) (nI o) 1 (nI t) (z, hv A iv rv ov) = F_X8_lengthen_b169 N (A.1 20 0) (nI r) (nI d) (nI k) (nI l) (nI o) 1 (nI (t + 1)) (z, hv A (u3 (u3 iv1 40 0 (24 * k + t) (nI q.1)) 41 0 (24 * k + t) (nI q.2)) rv ov) := by
        intro z ov
        rw [head, y1, bnd_v, mlenS hM hk (by omega), y3, y4, nI_1]
      refine ⟨fun x => ?_, fun s' c' x => ?_⟩
      · obtain ⟨iv', z1, z2⟩ := j1 x
        exact ⟨iv', fun z ov => (head2 z ov).trans (z1 z ov), F2.trans z2 (by omega)⟩
      · obtain ⟨iv', z1, z2, z3, z4⟩ := j2 s' c' x
        refine ⟨iv', fun z ov => (head2 z ov).trans (z1 z ov), F2.trans z2 (by omega), z3, fun j a b => ?_⟩
        by_cases gj : j = t
        · subst gj
          have hc := (drps_ok _ _ _ _ _ _ o1 x).2.2.1 j (by omega)
          rw [if_pos rfl] at hc
          rw [z2 _ _ _ (by omega) (by decide) (by omega), z2 _ _ _ (by omega) (by decide) (by omega), u3_T (by decide), u3_s, u3_s, hc]
          exact ⟨rfl, rfl⟩
        · exact z4 j (by omega) b
/-- the end, where the drops can't be cut -/
theorem mlen259n (hM : MD A rv) (hr : r < 4) (hk : k < 16) (hl : l < 10) (e33 : iv 33 0 k = nI D) (e37 : iv 37 0 r = nI o) (e35 : iv 35 0 r = nI l) (e31 : iv 31 0 l = nI L) : F_X8_lengthen_b259 (A.1 20 0) (nI r) (nI d) (nI k) (nI l) (nI o) 0 (z, hv A iv rv ov) = rtv (-1) (z, hv A (u3 (u3 (u3 iv 33 0 k (nI (D + d))) 20 0 28 (iv 20 0 28 + nI o * nI L)) 35 0 r (-1)) rv ov) := by
  have ml := mlose_spec (z := z) (ov := ov) (iv := u3 iv 33 0 k (nI (D + d))) (r := r) (l := l) (o := o) (L := L) hM hr hl (by rw [u3_T (by decide), e37]) (by rw [u3_T (by decide), e35]) (by rw [u3_T (by decide), e31])
  rw [u3_T (by decide : 20 ≠ 33)] at ml
  unfold F_X8_lengthen_b259
  rw [mR16 hM, nn_s, mA16 hM hk, e33, nI_add D d, mS16 hM hk, if_pos rfl, mO hM, ml, bnd_v]
/-- the end, where they are -/
theorem mlen259y {c : Nat} (hM : MD A rv) (hr : r < 4) (hk : k < 16) (hl : l < 10) (e33 : iv 33 0 k = nI D) (e23 : iv 20 0 23 = nI c) (hc : c ≤ 20) (e30 : iv 30 0 l = nI kk) (ho : o ≤ c) (hkk : c - o ≤ kk) : ∃ iv', (∀ z ov, F_X8_lengthen_b259 (A.1 20 0) (nI r) (nI d) (nI k) (nI l) (nI o) 1 (z, hv A iv rv ov) = rtv (nI (c - o)) (z, hv A iv' rv ov)) ∧ iv' 33 0 k = nI (D + d) ∧ iv' 37 0 r = nI c ∧ iv' 30 0 l = nI (kk - (c - o)) ∧ (∀ j, j < c → iv' 38 0 (20 * r + j) = iv 39 0 j) ∧ ∀ T i j, ¬ (T = 33 ∧ i = 0 ∧ j = k) → ¬ (T = 37 ∧ i = 0 ∧ j = r) → ¬ (T = 38 ∧ 20 * r ≤ j ∧ j < 20 * r + 20) → ¬ (T = 30 ∧ i = 0 ∧ j = l) → iv' T i j = iv T i j := by
  obtain ⟨ivf, K1, K2, K3, K4⟩ := keep_spec (r := r) (c := c) (iv := u3 iv 33 0 k (nI (D + d))) hM hr hc (by rw [u3_T (by decide), e23])
  have f30 : ivf 30 0 l = nI kk := by rw [K3 _ _ _ (by omega) (by omega), u3_T (by decide), e30]
  refine ⟨u3 ivf 30 0 l (nI (kk - (c - o))), fun z ov => ?_, ?_, ?_, u3_s, fun j hj => ?_, fun T i j x1 x2 x3 x4 => ?_⟩
  · unfold F_X8_lengthen_b259
    rw [mR16 hM, nn_s, mA16 hM hk, e33, nI_add D d, mS16 hM hk, if_neg (by decide), mO hM, K1, bnd_v, mR13 hM, nn_s, mA13 hM hl, f30, mR20 hM, nn_s, mA20 hM hr, K2, pk_sub ho, pk_sub hkk, mS13 hM hl, mR20 hM, nn_s, mA20 hM hr, u3_T (by decide), K2, pk_sub ho]
  · rw [u3_T (by decide), K3 _ _ _ (by omega) (by omega), u3_s]
  · rw [u3_T (by decide), K2]
  · rw [u3_T (by decide), K4 j hj, u3_T (by decide)]
  · rw [u3_n x4, K3 _ _ _ x2 x3, u3_n x1]
variable {np nr nl : Nat}
/-- a wall of a bare room, lengthened -/
theorem INV.dlen {iv2 : IVt} {w D' : Nat} (h : INV A iv rv np nr nl) (hr : r < 4) (hw : w < 4) (hb : rv 12 r 3 = none ∧ iv 35 0 r = -1) (he : ∀ T i j, ¬ (T = 16 ∧ i = 4 * r + w ∧ j = 2) → ¬ (T = 33 ∧ i = 0 ∧ j = 4 * r + w) → iv2 T i j = iv T i j) (h16 : iv2 16 (4 * r + w) 2 = nI D') (h33 : iv2 33 0 (4 * r + w) = nI D') (hD1 : 1 ≤ D') (hD2 : D' ≤ 24) : INV A iv2 rv np nr nl := by
  obtain ⟨g1, g2, g3, g4, g5, g6, g7⟩ := h
  have e : ∀ T i j, T ≠ 16 ∧ T ≠ 33 → iv2 T i j = iv T i j := fun T i j q => he T i j (fun w => q.1 w.1) (fun w => q.2 w.1)
  refine ⟨g1, g2, g3.to (fun j => e _ _ _ (by decide)) (e _ _ _ (by decide)) (e _ _ _ (by decide)) (e _ _ _ (by decide)) (e _ _ _ (by decide)) (fun k _ => e _ _ _ (by decide)), fun i hi => (g4 i hi).to (fun _ _ q => q) rfl rfl ?_ ?_ ?_ ?_ ?_ ?_ ?_, fun i hi => (g5 i hi).to (Nat.le_refl _) (fun _ _ q => q) rfl rfl ?_ ?_ ?_ ?_ ?_ ?_ ?_ ?_ ?_ ?_, fun i hi => (g6 i hi).to (Nat.le_refl _) (fun _ _ q => q) rfl ?_ ?_ ?_ ?_ ?_, fun r' hr' => ?_⟩
  rotate_left 22
  · by_cases hrr : r' = r
    · subst hrr
      obtain ⟨a1, a2, a3, a4, a5, a6, a7, n, a8, a9, a10, a11, a12, a13, a14⟩ := g7 r' hr'
      refine ⟨a1, a2, a3, a4, a5, a6, a7, n, a8, (e _ _ _ (by decide)).trans a9, (e _ _ _ (by decide)).trans a10, a11, a12, fun w' hw' => ?_, Or.inl ⟨hb.1, (e _ _ _ (by decide)).trans hb.2⟩⟩
      by_cases hww : w' = w
      · subst hww
        obtain ⟨d, hh, w1, w2, w3, w4, w5, w6, w7, w8, w9, w10, w11, w12⟩ := a13 w' hw'
        exact ⟨D', hh, w1, w2, w3, w4, h16, h33, hD1, hD2, (he _ _ _ (by omega) (by omega)).trans w9, (e _ _ _ (by decide)).trans w10, w11, w12⟩
      · exact (a13 w' hw').to (fun _ _ q => q) rfl (fun j => he _ _ _ (by omega) (by omega)) (he _ _ _ (by omega) (by omega)) (e _ _ _ (by decide))
    · refine (g7 r' hr').to (Nat.le_refl _) (fun _ _ q => q) (fun _ _ q => q) (fun _ => rfl) rfl (fun _ _ => rfl) (fun _ _ => rfl) (fun _ _ => rfl) ?_ ?_ ?_ (fun w' j hw' => he _ _ _ (by omega) (by omega)) ?_ ?_ (fun w' hw' => he _ _ _ (by omega) (by omega)) ?_ ?_ ?_ ?_ ?_ ?_ ?_ ?_ (fun l k _ hk => ⟨k, Nat.le_refl _, (e _ _ _ (by decide)).trans hk⟩) ?_ <;> intros <;> exact e _ _ _ (by decide)
  all_goals intros
  all_goals exact e _ _ _ (by decide)
/-- a wall of a hung room, lengthened: the rest of the invariant -/
theorem INV.long {iv2 : IVt} {w m' : Nat} (h : INV A iv rv np nr nl) (hr : r < 4) (hw : w < 4) (hkk : iv 11 l 4 = nI kk) (kk20 : kk ≤ 20) (hm : m' ≤ kk)
    (e : ∀ T i j, T ≠ 11 ∧ T ≠ 14 ∧ T ≠ 15 ∧ T ≠ 16 ∧ T ≠ 17 ∧ T ≠ 20 ∧ T ≠ 30 ∧ T ≠ 33 ∧ T ≠ 37 ∧ T ≠ 38 ∧ T ≠ 39 ∧ T ≠ 40 ∧ T ≠ 41 → iv2 T i j = iv T i j) (e11 : ∀ i j, i ≠ l ∨ j ≠ 4 → iv2 11 i j = iv 11 i j) (e114 : iv2 11 l 4 = nI m') (e30 : ∀ i, i ≠ l → iv2 30 0 i = iv 30 0 i) (e30l : iv2 30 0 l = nI m') (e14 : ∀ i j, i ≠ r → iv2 14 i j = iv 14 i j ∧ iv2 15 i j = iv 15 i j) (e16 : ∀ i j, i ≠ 4 * r + w → iv2 16 i j = iv 16 i j ∧ iv2 17 i j = iv 17 i j) (e20 : ∀ j, j ≠ 0 → j ≠ 23 → j ≠ 24 → j ≠ 25 → iv2 20 0 j = iv 20 0 j) (e33 : ∀ i, i ≠ 4 * r + w → iv2 33 0 i = iv 33 0 i) (e37 : ∀ i, i ≠ r → iv2 37 0 i = iv 37 0 i) (e38 : ∀ j, j < 20 * r ∨ 20 * r + 20 ≤ j → iv2 38 0 j = iv 38 0 j) (e40 : ∀ j, j < 96 * r ∨ 96 * r + 96 ≤ j → iv2 40 0 j = iv 40 0 j ∧ iv2 41 0 j = iv 41 0 j) (hR : ROOM A iv2 rv nl r) : INV A iv2 rv np nr nl := by
  obtain ⟨f1, f2, f3, f4, f5, f6, f7⟩ := h
  refine ⟨f1, f2, f3.to (fun j => e _ _ _ (by decide)) (e20 1 (by decide) (by decide) (by decide) (by decide)) (e20 6 (by decide) (by decide) (by decide) (by decide)) (e20 10 (by decide) (by decide) (by decide) (by decide)) (e20 28 (by decide) (by decide) (by decide) (by decide)) (fun k _ => e _ _ _ (by decide)), fun i hi => (f4 i hi).to (fun _ _ q => q) rfl rfl ?_ ?_ ?_ ?_ ?_ ?_ ?_, fun i hi => (f5 i hi).to (Nat.le_refl _) (fun _ _ q => q) rfl rfl ?_ ?_ ?_ ?_ ?_ ?_ ?_ ?_ ?_ ?_, fun i hi => ?_, fun r' hr' => ?_⟩
  rotate_left 17
  · obtain ⟨lq, lk, lL, p1, p2, p3, p4, p5, p6, p7, p8, p9, p10, p11, p12, p13, p14⟩ := f6 i hi
    by_cases hil : i = l
    · subst hil
      exact ⟨lq, m', lL, p1, p2, p3, p4, (e11 _ _ (Or.inr (by decide))).trans p5, (e _ _ _ (by decide)).trans p6, by rw [e _ _ _ (by decide), e11 _ _ (Or.inr (by decide)), p7], e114, e30l, by omega, (e11 _ _ (Or.inr (by decide))).trans p11, (e _ _ _ (by decide)).trans p12, p13, p14⟩
    · exact (f6 i hi).to (Nat.le_refl _) (fun _ _ q => q) rfl (fun j => e11 _ _ (Or.inl hil)) (e _ _ _ (by decide)) (e _ _ _ (by decide)) (e30 i hil) (e _ _ _ (by decide))
  · by_cases hrr : r' = r
    · subst hrr
      exact hR
    · refine (f7 r' hr').to (Nat.le_refl _) (fun _ _ q => q) (fun _ _ q => q) (fun _ => rfl) rfl (fun _ _ => rfl) (fun _ _ => rfl) (fun _ _ => rfl) ?_ (fun j => (e14 _ _ hrr).1) (fun j => (e14 _ _ hrr).2) (fun w' j hw' => (e16 _ _ (by omega)).1) (fun w' j hw' => (e16 _ _ (by omega)).2) ?_ (fun w' hw' => e33 _ (by omega)) ?_ ?_ ?_ (e37 r' hrr) (fun k hk => e38 _ (by omega)) (fun w d hw hd => (e40 _ (by omega)).1) (fun w d hw hd => (e40 _ (by omega)).2) (fun l2 hl2 => e11 _ _ (Or.inr (by decide))) (fun l2 k hl2 hk => ?_) ?_
      rotate_left 5
      · by_cases hl2l : l2 = l
        · subst hl2l
          have hkm : kk ≤ k := by
            by_cases hk31 : k < 2 ^ 31
            · have := nI_inj (a := k) (b := kk) hk31 (by omega) (hk.symm.trans hkk)
              omega
            · omega
          exact ⟨m', by omega, e114⟩
        · exact ⟨k, Nat.le_refl _, (e11 _ _ (Or.inl hl2l)).trans hk⟩
      all_goals intros
      all_goals exact e _ _ _ (by decide)
  all_goals intros
  all_goals exact e _ _ _ (by decide)
end LE
