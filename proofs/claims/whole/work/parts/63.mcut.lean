/-! a room cut by a phase, on the reference's side -/
def MFR (r : Nat) (iv iv' : IVt) : Prop := ∀ T i j, ¬ (T = 20 ∧ (j = 23 ∨ j = 24 ∨ j = 25)) → T ≠ 39 → ¬ ((T = 40 ∨ T = 41) ∧ 96 * r ≤ j ∧ j < 96 * r + 96) → iv' T i j = iv T i j
theorem MFR.rfl {r : Nat} {iv : IVt} : MFR r iv iv := fun _ _ _ _ _ _ => Eq.refl _
theorem MFR.trans {r : Nat} {iv iv1 iv2 : IVt} (h1 : MFR r iv iv1) (h2 : MFR r iv1 iv2) : MFR r iv iv2 := fun T i j a b c => (h2 T i j a b c).trans (h1 T i j a b c)
theorem MFR.at {r T i j : Nat} {iv iv1 : IVt} (h1 : MFR r iv iv1) (hT : T ≠ 20 ∧ T ≠ 39 ∧ T ≠ 40 ∧ T ≠ 41) : iv1 T i j = iv T i j := h1 T i j (fun q => hT.1 q.1) hT.2.1 (fun q => q.1.elim hT.2.2.1 hT.2.2.2)
def MDH (iv : IVt) (r n : Nat) (D H : Nat → Nat) : Prop := r < 4 ∧ n ≤ 4 ∧ iv 32 0 r = nI n ∧ ∀ w, w < n → iv 33 0 (4 * r + w) = nI (D w) ∧ iv 34 0 (4 * r + w) = nI (H w) ∧ D w ≤ 24 ∧ H w ≤ 60
section MC
variable {A : Adr} {rv : RVt} {r l L R p m n : Nat} {D H : Nat → Nat} {b : Bool}
theorem mcut30 {w : Nat} (hM : MD A rv) (K8 : Nat → Int32 → Int32 → Int32 → Int32 → Int32 → hpT → Rs Int32) (hw : w < n) : ∀ g d N, d + g = D w → g < N → ∀ (iv : IVt) (s : CS) (c : Nat → Nat × Nat), MDH iv r n D H → MLT iv l L R → iv 30 0 l = nI m → MKS iv s → SOK L R p m s →
    (drps L R p (H w) m g d s c = none → ∃ iv', (∀ z ov, F_X8_cutAll_b30 K8 N (A.1 20 0) (nI r) (nI l) (nI p) (bI b) (nI w) (nI (4 * r + w)) (nI d) (z, hv A iv rv ov) = rtv (-1) (z, hv A iv' rv ov)) ∧ MFR r iv iv') ∧
    (∀ s' c', drps L R p (H w) m g d s c = some (s', c') → ∃ iv', (∀ z ov, F_X8_cutAll_b30 K8 N (A.1 20 0) (nI r) (nI l) (nI p) (bI b) (nI w) (nI (4 * r + w)) (nI d) (z, hv A iv rv ov) = K8 (A.1 20 0) (nI r) (nI l) (nI p) (bI b) (nI (w + 1)) (z, hv A iv' rv ov)) ∧ MFR r iv iv' ∧ MKS iv' s' ∧ (b = true → ∀ j, d ≤ j → j < D w → iv' 40 0 (24 * (4 * r + w) + j) = nI (c' j).1 ∧ iv' 41 0 (24 * (4 * r + w) + j) = nI (c' j).2) ∧ ∀ j, j < 24 * (4 * r + w) + d → iv' 40 0 j = iv 40 0 j ∧ iv' 41 0 j = iv 41 0 j) := by
  intro g
  induction g with
  | zero =>
    intro d N hd hN iv s c hD hL hm hC hs
    obtain ⟨N, rfl⟩ : ∃ N', N = N' + 1 := ⟨N - 1, by omega⟩
    obtain ⟨r4, n4, n1, n2⟩ := id hD
    obtain ⟨e1, e2, e3, e4⟩ := n2 w hw
    unfold F_X8_cutAll_b30 drps
    refine ⟨fun x => (by cases x), fun s' c' x => ?_⟩
    cases x
    refine ⟨iv, fun z ov => ?_, MFR.rfl, hC, fun _ j a b => by omega, fun _ _ => ⟨rfl, rfl⟩⟩
    rw [mR16 hM, nn_s, mA16 hM (by omega), e1, if_pos (nI_le (by omega) (by omega)), nI_1]
  | succ g ih =>
    intro d N hd hN iv s c hD hL hm hC hs
    obtain ⟨N, rfl⟩ : ∃ N', N = N' + 1 := ⟨N - 1, by omega⟩
    obtain ⟨r4, n4, n1, n2⟩ := id hD
    obtain ⟨e1, e2, e3, e4⟩ := n2 w hw
    obtain ⟨t1, t2⟩ := give_spec hM hL hC hs e4
    obtain ⟨a1, -⟩ := id hL
    unfold F_X8_cutAll_b30 F_X8_cutAll_b105 drps
    cases hst : stp L R p (H w) m s with
    | none =>
      refine ⟨fun _ => ⟨iv, fun z ov => ?_, MFR.rfl⟩, fun s' c' x => (by cases x)⟩
      rw [mR16 hM, nn_s, mA16 hM (by omega), e1, if_neg (nI_ge (by omega) (by omega)), mR13 hM, nn_s, mA13 hM a1, hm, mR17 hM, nn_s, mA17 hM (by omega), e2, mO hM, t1 hst, bnd_v, if_pos rfl]
    | some qs =>
      obtain ⟨q, s1⟩ := qs
      obtain ⟨iv1, y1, y2, y3, y4, y5⟩ := t2 q s1 hst
      obtain ⟨o1, -⟩ := stp_ok hs hst
      have F1 : MFR r iv iv1 := fun T i j x1 x2 x3 => y5 T i j x1 x2
      have head : ∀ z ov (K : Int32 → hpT → Rs Int32), (gfR (z, hv A iv rv ov) (A.1 20 0) 8 16 fun r21 => nn r21 fun a22 => ald (z, hv A iv rv ov) a22 (nI (4 * r + w)) fun x23 => (if x23 ≤ nI d then K8 (A.1 20 0) (nI r) (nI l) (nI p) (bI b) (nI w + 1) (z, hv A iv rv ov) else gfR (z, hv A iv rv ov) (A.1 20 0) 8 13 fun r24 => nn r24 fun a25 => ald (z, hv A iv rv ov) a25 (nI l) fun x26 => gfR (z, hv A iv rv ov) (A.1 20 0) 8 17 fun r27 => nn r27 fun a28 => ald (z, hv A iv rv ov) a28 (nI (4 * r + w)) fun x29 => isO (z, hv A iv rv ov) (A.1 20 0) 8 (bnd (F_X8_give (A.1 20 0) (nI l) (nI p) x26 x29 (z, hv A iv rv ov)) K))) = K 1 (z, hv A iv1 rv ov) := by
        intro z ov K
        rw [mR16 hM, nn_s, mA16 hM (by omega), e1, if_neg (nI_ge (by omega) (by omega)), mR13 hM, nn_s, mA13 hM a1, hm, mR17 hM, nn_s, mA17 hM (by omega), e2, mO hM, y1, bnd_v]
      cases b with
      | false =>
        have D1 : MDH iv1 r n D H := ⟨r4, n4, (F1.at (by decide)).trans n1, fun w' hw' => by rw [F1.at (by decide), F1.at (by decide)]; exact n2 w' hw'⟩
        have L1 : MLT iv1 l L R := hL.to (fun T j hT => F1.at (by omega))
        obtain ⟨j1, j2⟩ := ih (d + 1) N (by omega) (by omega) iv1 s1 (fun j => if j = d then q else c j) D1 L1 ((F1.at (by decide)).trans hm) y2 o1
        refine ⟨fun x => ?_, fun s' c' x => ?_⟩
        · obtain ⟨iv', z1, z2⟩ := j1 x
          refine ⟨iv', fun z ov => (head z ov _).trans ?_, F1.trans z2⟩
          rw [if_neg (by decide), if_pos (by rfl), nI_1]
          exact z1 z ov
        · obtain ⟨iv', z1, z2, z3, z4, z5⟩ := j2 s' c' x
          refine ⟨iv', fun z ov => (head z ov _).trans ?_, F1.trans z2, z3, fun hb => (by cases hb), fun j hj => ?_⟩
          · rw [if_neg (by decide), if_pos (by rfl), nI_1]
            exact z1 z ov
          · rw [(z5 j (by omega)).1, (z5 j (by omega)).2, y5 _ _ _ (by omega) (by decide), y5 _ _ _ (by omega) (by decide)]
            exact ⟨rfl, rfl⟩
      | true =>
        have F2 : MFR r iv (u3 (u3 iv1 40 0 (24 * (4 * r + w) + d) (nI q.1)) 41 0 (24 * (4 * r + w) + d) (nI q.2)) := fun T i j x1 x2 x3 => by
          rw [u3_n (by omega), u3_n (by omega)]
          exact F1 T i j x1 x2 x3
        have D1 : MDH (u3 (u3 iv1 40 0 (24 * (4 * r + w) + d) (nI q.1)) 41 0 (24 * (4 * r + w) + d) (nI q.2)) r n D H := ⟨r4, n4, (F2.at (by decide)).trans n1, fun w' hw' => by rw [F2.at (by decide), F2.at (by decide)]; exact n2 w' hw'⟩
        have L1 : MLT (u3 (u3 iv1 40 0 (24 * (4 * r + w) + d) (nI q.1)) 41 0 (24 * (4 * r + w) + d) (nI q.2)) l L R := hL.to (fun T j hT => F2.at (by omega))
        have K1 : MKS (u3 (u3 iv1 40 0 (24 * (4 * r + w) + d) (nI q.1)) 41 0 (24 * (4 * r + w) + d) (nI q.2)) s1 := ⟨by rw [u3_T (by decide), u3_T (by decide)]; exact y2.1, fun k hk => by rw [u3_T (by decide), u3_T (by decide)]; exact y2.2 k hk⟩
        obtain ⟨j1, j2⟩ := ih (d + 1) N (by omega) (by omega) _ s1 (fun j => if j = d then q else c j) D1 L1 ((F2.at (by decide)).trans hm) K1 o1
        have tail : ∀ z ov (K : hpT → Rs Int32), (gfR (z, hv A iv1 rv ov) (A.1 20 0) 8 26 fun r31 => gfI (z, hv A iv1 rv ov) (A.1 20 0) 8 24 fun x32 => nn r31 fun a33 => ast (z, hv A iv1 rv ov) a33 ((24 * nI (4 * r + w)) + nI d) x32 fun h34 => gfR h34 (A.1 20 0) 8 27 fun r35 => gfI h34 (A.1 20 0) 8 25 fun x36 => nn r35 fun a37 => ast h34 a37 ((24 * nI (4 * r + w)) + nI d) x36 K) = K (z, hv A (u3 (u3 iv1 40 0 (24 * (4 * r + w) + d) (nI q.1)) 41 0 (24 * (4 * r + w) + d) (nI q.2)) rv ov) := by
          intro z ov K
          rw [mR26 hM, mI24 hM, y3, nn_s, show (24 : Int32) = nI 24 from rfl, pk_mul, nI_add, mS26 hM (by omega), mR27 hM, mI25 hM, u3_T (by decide), y4, nn_s, mS27 hM (by omega)]
        refine ⟨fun x => ?_, fun s' c' x => ?_⟩
        · obtain ⟨iv', z1, z2⟩ := j1 x
          refine ⟨iv', fun z ov => (head z ov _).trans ?_, F2.trans z2⟩
          rw [if_neg (by decide), if_neg (by decide), tail, nI_1]
          exact z1 z ov
        · obtain ⟨iv', z1, z2, z3, z4, z5⟩ := j2 s' c' x
          refine ⟨iv', fun z ov => (head z ov _).trans ?_, F2.trans z2, z3, fun hb j a b => ?_, fun j hj => ?_⟩
          · rw [if_neg (by decide), if_neg (by decide), tail, nI_1]
            exact z1 z ov
          · by_cases gj : j = d
            · subst gj
              have hc := (drps_ok _ _ _ _ _ _ o1 x).2.2.1 j (by omega)
              rw [if_pos rfl] at hc
              rw [(z5 _ (by omega)).1, (z5 _ (by omega)).2, u3_T (by decide), u3_s, u3_s, hc]
              exact ⟨rfl, rfl⟩
            · exact z4 rfl j (by omega) b
          · rw [(z5 j (by omega)).1, (z5 j (by omega)).2, u3_T (by decide), u3_n (by omega), u3_n (by omega), u3_T (by decide), y5 _ _ _ (by omega) (by decide), y5 _ _ _ (by omega) (by decide)]
            exact ⟨rfl, rfl⟩
theorem mcut8 (hM : MD A rv) : ∀ g w N, w + g = n → g < N → ∀ (iv : IVt) (s : CS) (C : Nat → Nat → Nat × Nat), MDH iv r n D H → MLT iv l L R → iv 30 0 l = nI m → MKS iv s → SOK L R p m s →
    (wls L R p m D H g w s C = none → ∃ iv', (∀ z ov, F_X8_cutAll_b8 N (A.1 20 0) (nI r) (nI l) (nI p) (bI b) (nI w) (z, hv A iv rv ov) = rtv (-1) (z, hv A iv' rv ov)) ∧ MFR r iv iv') ∧
    (∀ s' C', wls L R p m D H g w s C = some (s', C') → ∃ iv', (∀ z ov, F_X8_cutAll_b8 N (A.1 20 0) (nI r) (nI l) (nI p) (bI b) (nI w) (z, hv A iv rv ov) = rtv (nI s'.1) (z, hv A iv' rv ov)) ∧ MFR r iv iv' ∧ MKS iv' s' ∧ (b = true → ∀ w' j, w ≤ w' → w' < n → j < D w' → iv' 40 0 (24 * (4 * r + w') + j) = nI (C' w' j).1 ∧ iv' 41 0 (24 * (4 * r + w') + j) = nI (C' w' j).2) ∧ ∀ j, j < 24 * (4 * r + w) → iv' 40 0 j = iv 40 0 j ∧ iv' 41 0 j = iv 41 0 j) := by
  intro g
  induction g with
  | zero =>
    intro w N hw hN iv s C hD hL hm hC hs
    obtain ⟨N, rfl⟩ : ∃ N', N = N' + 1 := ⟨N - 1, by omega⟩
    obtain ⟨r4, n4, n1, n2⟩ := id hD
    unfold F_X8_cutAll_b8 wls
    refine ⟨fun x => (by cases x), fun s' C' x => ?_⟩
    cases x
    refine ⟨iv, fun z ov => ?_, MFR.rfl, hC, fun _ w' j a b => by omega, fun _ _ => ⟨rfl, rfl⟩⟩
    rw [mR15 hM, nn_s, mA15 hM r4, n1, if_pos (nI_le (by omega) (by omega)), mI23 hM, hC.1]
  | succ g ih =>
    intro w N hw hN iv s C hD hL hm hC hs
    obtain ⟨N, rfl⟩ : ∃ N', N = N' + 1 := ⟨N - 1, by omega⟩
    obtain ⟨r4, n4, n1, n2⟩ := id hD
    obtain ⟨t1, t2⟩ := mcut30 (b := b) (w := w) hM (F_X8_cutAll_b8 N) (by omega) (D w) 0 1000 (by omega) (by have := (n2 w (by omega)).2.2.1; omega) iv s (C w) hD hL hm hC hs
    have head : ∀ z ov, F_X8_cutAll_b8 (N + 1) (A.1 20 0) (nI r) (nI l) (nI p) (bI b) (nI w) (z, hv A iv rv ov) = F_X8_cutAll_b30 (F_X8_cutAll_b8 N) 1000 (A.1 20 0) (nI r) (nI l) (nI p) (bI b) (nI w) (nI (4 * r + w)) (nI 0) (z, hv A iv rv ov) := by
      intro z ov
      unfold F_X8_cutAll_b8
      rw [mR15 hM, nn_s, mA15 hM r4, n1, if_neg (nI_ge (by omega) (by omega)), wix]
      rfl
    unfold wls
    cases hst : drps L R p (H w) m (D w) 0 s (C w) with
    | none =>
      obtain ⟨iv', y1, y2⟩ := t1 hst
      exact ⟨fun _ => ⟨iv', fun z ov => (head z ov).trans (y1 z ov), y2⟩, fun s' c' x => (by cases x)⟩
    | some qs =>
      obtain ⟨s1, c⟩ := qs
      obtain ⟨iv1, y1, F1, y3, y4, y5⟩ := t2 s1 c hst
      have o1 := (drps_ok _ _ _ _ _ _ hs hst).1
      have D1 : MDH iv1 r n D H := ⟨r4, n4, (F1.at (by decide)).trans n1, fun w' hw' => by rw [F1.at (by decide), F1.at (by decide)]; exact n2 w' hw'⟩
      have L1 : MLT iv1 l L R := hL.to (fun T j hT => F1.at (by omega))
      obtain ⟨j1, j2⟩ := ih (w + 1) N (by omega) (by omega) iv1 s1 (fun j => if j = w then c else C j) D1 L1 ((F1.at (by decide)).trans hm) y3 o1
      refine ⟨fun x => ?_, fun s' C' x => ?_⟩
      · obtain ⟨iv', z1, z2⟩ := j1 x
        exact ⟨iv', fun z ov => (head z ov).trans ((y1 z ov).trans (z1 z ov)), F1.trans z2⟩
      · obtain ⟨iv', z1, z2, z3, z4, z5⟩ := j2 s' C' x
        refine ⟨iv', fun z ov => (head z ov).trans ((y1 z ov).trans (z1 z ov)), F1.trans z2, z3, fun hb w' j a b hj => ?_, fun j hj => ?_⟩
        · by_cases gj : w' = w
          · subst gj
            have hc := (wls_ok _ _ _ _ _ _ o1 x).2.1 w' (by omega)
            rw [if_pos rfl] at hc
            have hD24 := (n2 w' b).2.2.1
            rw [(z5 _ (by omega)).1, (z5 _ (by omega)).2, hc]
            exact y4 hb j (Nat.zero_le _) hj
          · exact z4 hb w' j (by omega) b hj
        · rw [(z5 j (by omega)).1, (z5 j (by omega)).2]
          exact y5 j (by omega)
/-- the whole room -/
theorem mcut_spec (C : Nat → Nat → Nat × Nat) (hM : MD A rv) {iv : IVt} (hD : MDH iv r n D H) (hL : MLT iv l L R) (hm : iv 30 0 l = nI m) (k1 : m ≤ 20) (k2 : L ≤ 200) (k3 : R ≤ 10) (k4 : p < R) :
    (wls L R p m D H n 0 (0, fun _ => 0) C = none → ∃ iv', (∀ z ov, F_X8_cutAll (A.1 20 0) (nI r) (nI l) (nI p) (bI b) (z, hv A iv rv ov) = rtv (-1) (z, hv A iv' rv ov)) ∧ MFR r iv iv') ∧
    (∀ s' C', wls L R p m D H n 0 (0, fun _ => 0) C = some (s', C') → ∃ iv', (∀ z ov, F_X8_cutAll (A.1 20 0) (nI r) (nI l) (nI p) (bI b) (z, hv A iv rv ov) = rtv (nI s'.1) (z, hv A iv' rv ov)) ∧ MFR r iv iv' ∧ MKS iv' s' ∧ (b = true → ∀ w' j, w' < n → j < D w' → iv' 40 0 (24 * (4 * r + w') + j) = nI (C' w' j).1 ∧ iv' 41 0 (24 * (4 * r + w') + j) = nI (C' w' j).2)) := by
  have F1 : MFR r iv (u3 iv 20 0 23 0) := fun T i j x1 x2 x3 => u3_n (by omega)
  obtain ⟨r4, n4, n1, n2⟩ := id hD
  have D1 : MDH (u3 iv 20 0 23 0) r n D H := ⟨r4, n4, (F1.at (by decide)).trans n1, fun w' hw' => by rw [F1.at (by decide), F1.at (by decide)]; exact n2 w' hw'⟩
  have L1 : MLT (u3 iv 20 0 23 0) l L R := hL.to (fun T j hT => F1.at (by omega))
  obtain ⟨t1, t2⟩ := mcut8 (b := b) (p := p) hM n 0 1000 (by omega) (by omega) (u3 iv 20 0 23 0) (0, fun _ => 0) C D1 L1 ((F1.at (by decide)).trans hm) ⟨u3_s, fun k hk => absurd hk (Nat.not_lt_zero k)⟩ ⟨Nat.zero_le _, k1, k2, k3, k4, fun k hk => absurd hk (Nat.not_lt_zero k)⟩
  have head : ∀ z ov, F_X8_cutAll (A.1 20 0) (nI r) (nI l) (nI p) (bI b) (z, hv A iv rv ov) = F_X8_cutAll_b8 1000 (A.1 20 0) (nI r) (nI l) (nI p) (bI b) (nI 0) (z, hv A (u3 iv 20 0 23 0) rv ov) := by
    intro z ov
    unfold F_X8_cutAll
    rw [mP23 hM]
    rfl
  refine ⟨fun x => ?_, fun s' C' x => ?_⟩
  · obtain ⟨iv', y1, y2⟩ := t1 x
    exact ⟨iv', fun z ov => (head z ov).trans (y1 z ov), F1.trans y2⟩
  · obtain ⟨iv', y1, y2, y3, y4, -⟩ := t2 s' C' x
    exact ⟨iv', fun z ov => (head z ov).trans (y1 z ov), F1.trans y2, y3, fun hb w' j a b => y4 hb w' j (Nat.zero_le _) a b⟩
end MC
