/-! one drop on the reference's side -/
def MLT (iv : IVt) (l L R : Nat) : Prop := l < 10 ∧ iv 31 0 l = nI L ∧ ∃ q pp w hh s, iv 28 0 l = nI q ∧ q < 8 ∧ iv 25 0 q = nI pp ∧ MPA iv pp w hh s ∧ R = rrM hh s
theorem MLT.to {iv iv' : IVt} {l L R : Nat} (h : MLT iv l L R) (e : ∀ T j, T = 21 ∨ T = 22 ∨ T = 23 ∨ T = 25 ∨ T = 28 ∨ T = 31 → iv' T 0 j = iv T 0 j) : MLT iv' l L R := by
  obtain ⟨a1, a2, q, pp, w, hh, s, a3, a4, a5, a6, a7⟩ := h
  exact ⟨a1, (e _ _ (by decide)).trans a2, q, pp, w, hh, s, (e _ _ (by decide)).trans a3, a4, (e _ _ (by decide)).trans a5, a6.to (e _ _ (by decide)) (e _ _ (by decide)) (e _ _ (by decide)), a7⟩
def MKS (iv : IVt) (s : CS) : Prop := iv 20 0 23 = nI s.1 ∧ ∀ k, k < s.1 → iv 39 0 k = nI (s.2 k)
section GI
variable {A : Adr} {iv : IVt} {rv : RVt} {ov : Nat → Int64} {z l L R p m h : Nat} {s : CS}
theorem rol_spec (hM : MD A rv) (hL : MLT iv l L R) : F_X8_rowsOfLot (A.1 20 0) (nI l) (z, hv A iv rv ov) = rtv (nI R) (z, hv A iv rv ov) := by
  obtain ⟨a1, a2, q, pp, w, hh, s, a3, a4, a5, a6, a7⟩ := hL
  unfold F_X8_rowsOfLot
  rw [mR7 hM, mR11 hM, nn_s, mA11 hM a1, a3, nn_s, mA7 hM a4, a5, mO hM, rows_spec hM a6, bnd_v, a7]
theorem give87 {q b n : Nat} (hM : MD A rv) (hq : q < 20) : F_X8_give_b87 (A.1 20 0) (nI h) (nI q) (nI b) (nI n) (A.1 20 0) (z, hv A iv rv ov) = rtv 1 (z, hv A (u3 (u3 (u3 (u3 iv 20 0 23 (nI n)) 39 0 q (nI (b + h))) 20 0 24 (nI q)) 20 0 25 (nI b)) rv ov) := by
  unfold F_X8_give_b87
  rw [mP23 hM, mR22 hM, nn_s, nI_add, mS22 hM hq, mP24 hM, mP25 hM, rtZ_1]
theorem give_b10 (hM : MD A rv) (hL : MLT iv l L R) (hC : MKS iv s) (hs : SOK L R p m s) (hh : h ≤ 60) : ∀ g k N, k + g = s.1 → g < N →
    (fnd L R p h m s.2 g k = none → F_X8_give_b10 N (A.1 20 0) (nI l) (nI p) (nI m) (nI h) (nI R) (nI k) (z, hv A iv rv ov) = rtv 0 (z, hv A iv rv ov)) ∧
    (∀ q b, fnd L R p h m s.2 g k = some (q, b) → F_X8_give_b10 N (A.1 20 0) (nI l) (nI p) (nI m) (nI h) (nI R) (nI k) (z, hv A iv rv ov) = rtv 1 (z, hv A (u3 (u3 (u3 (u3 iv 20 0 23 (nI (if q = s.1 then s.1 + 1 else s.1))) 39 0 q (nI (b + h))) 20 0 24 (nI q)) 20 0 25 (nI b)) rv ov)) := by
  obtain ⟨k1, k2, k3, k4, k5, k6⟩ := id hs
  obtain ⟨m1, m2⟩ := hC
  obtain ⟨a1, a2, -⟩ := id hL
  intro g
  induction g with
  | zero =>
    intro k N hk hN1
    obtain ⟨N, rfl⟩ : ∃ N', N = N' + 1 := ⟨N - 1, by omega⟩
    have hk' : k = s.1 := hk
    subst hk'
    unfold F_X8_give_b10 fnd
    by_cases q0 : m ≤ s.1
    · rw [if_pos (nI_le q0 (by omega)), if_neg (by omega)]
      exact ⟨fun _ => rfl, fun q' b' x => (by cases x)⟩
    · rw [if_neg (nI_ge (by omega) (by omega)), mI23 hM, m1, if_pos (nI_le (Nat.le_refl _) (by omega))]
      unfold F_X8_give_b36
      rw [Int32.sub_zero, modu_spec (by omega) (by omega), bnd_v, wm_small k5 (by omega), mR14 hM, nn_s, mA14 hM a1, a2, show (0 : Int32) = nI 0 from rfl, nI_add, Nat.zero_add, nI_add]
      by_cases q1 : p + h ≤ L
      · rw [if_pos (⟨by omega, q1⟩ : s.1 < m ∧ p + h ≤ L), if_neg (nI_nlt q1 (by omega)), mI23 hM, m1, if_pos (nI_le (Nat.le_refl _) (by omega)), nI_1, give87 hM (by omega)]
        refine ⟨fun x => (by cases x), fun q' b' x => ?_⟩
        cases x
        rw [if_pos rfl]
      · rw [if_neg (show ¬ (s.1 < m ∧ p + h ≤ L) from fun w => q1 w.2), if_pos (nI_lt (by omega) (by omega)), mI23 hM, m1, if_neg (nI_nlt (Nat.le_refl _) (by omega))]
        exact ⟨fun _ => rfl, fun q' b' x => (by cases x)⟩
  | succ g ih =>
    intro k N hk hN1
    obtain ⟨N, rfl⟩ : ∃ N', N = N' + 1 := ⟨N - 1, by omega⟩
    have hkn : k < s.1 := by omega
    have hfk := k6 k hkn
    have hb := bg_lt (R := R) (p := p) (e := s.2 k) (by omega)
    unfold F_X8_give_b10 fnd
    rw [if_neg (nI_ge (by omega) (by omega)), mI23 hM, m1, if_neg (nI_ge hkn (by omega)), mR22 hM, nn_s, mA22 hM (by omega), m2 k hkn]
    unfold F_X8_give_b36
    rw [modu_spec (by omega) (by omega), bnd_v, mR14 hM, nn_s, mA14 hM a1, a2, nI_add, nI_add, show s.2 k + wm (nI p - nI (s.2 k)) R = bg R p (s.2 k) from rfl]
    by_cases q : bg R p (s.2 k) + h ≤ L
    · rw [if_pos q, if_neg (nI_nlt q (by omega)), mI23 hM, m1, if_neg (nI_ge hkn (by omega)), mI23 hM, m1, give87 hM (by omega)]
      refine ⟨fun x => (by cases x), fun q' b' x => ?_⟩
      cases x
      rw [if_neg (by omega)]
    · rw [if_neg q, if_pos (nI_lt (by omega) (by omega)), mI23 hM, m1, if_pos (nI_lt hkn (by omega)), nI_1]
      exact ih (k + 1) N (by omega) (by omega)
/-- one drop -/
theorem give_spec (hM : MD A rv) (hL : MLT iv l L R) (hC : MKS iv s) (hs : SOK L R p m s) (hh : h ≤ 60) :
    (stp L R p h m s = none → ∀ z ov, F_X8_give (A.1 20 0) (nI l) (nI p) (nI m) (nI h) (z, hv A iv rv ov) = rtv 0 (z, hv A iv rv ov)) ∧
    (∀ q s', stp L R p h m s = some (q, s') → ∃ iv', (∀ z ov, F_X8_give (A.1 20 0) (nI l) (nI p) (nI m) (nI h) (z, hv A iv rv ov) = rtv 1 (z, hv A iv' rv ov)) ∧ MKS iv' s' ∧ iv' 20 0 24 = nI q.1 ∧ iv' 20 0 25 = nI q.2 ∧ ∀ T i j, ¬ (T = 20 ∧ (j = 23 ∨ j = 24 ∨ j = 25)) → T ≠ 39 → iv' T i j = iv T i j) := by
  have hG := fun z ov => give_b10 (z := z) (ov := ov) (h := h) hM hL hC hs hh s.1 0 1000 (by omega) (by have := hs.1; have := hs.2.1; omega)
  obtain ⟨m1, m2⟩ := id hC
  refine ⟨fun q z ov => ?_, fun q s' hq => ?_⟩
  · have e : fnd L R p h m s.2 s.1 0 = none := by
      unfold stp at q
      split at q
      · assumption
      · cases q
    unfold F_X8_give
    rw [mO hM, rol_spec hM hL, bnd_v]
    exact (hG z ov).1 e
  · obtain ⟨o1, o2, o3, o4, o5, o6, o7, o8⟩ := stp_ok hs hq
    refine ⟨u3 (u3 (u3 (u3 iv 20 0 23 (nI (if q.1 = s.1 then s.1 + 1 else s.1))) 39 0 q.1 (nI (q.2 + h))) 20 0 24 (nI q.1)) 20 0 25 (nI q.2), fun z ov => ?_, ⟨?_, fun k hk => ?_⟩, ?_, ?_, fun T i j x y => ?_⟩
    · unfold F_X8_give
      rw [mO hM, rol_spec hM hL, bnd_v]
      exact (hG z ov).2 q.1 q.2 o7
    · rw [u3_n (by omega), u3_n (by omega), u3_T (by decide), u3_s, o8]
    · have e2 : s'.2 k = if k = q.1 then q.2 + h else s.2 k := by rw [o8]
      have e3 : s'.1 = if q.1 = s.1 then s.1 + 1 else s.1 := by rw [o8]
      rw [u3_T (by decide), u3_T (by decide), e2]
      by_cases g : k = q.1
      · rw [if_pos g, g, u3_s]
      · rw [if_neg g, u3_n (by omega), u3_T (by decide)]
        refine m2 k ?_
        rw [e3] at hk
        split at hk <;> omega
    · rw [u3_n (by omega), u3_s]
    · rw [u3_s]
    · rw [u3_n (by omega), u3_n (by omega), u3_T y, u3_n (by omega)]
end GI
