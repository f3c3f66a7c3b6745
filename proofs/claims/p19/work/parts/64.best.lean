/-! the best phase on both sides; what the reference keeps -/
def bst (run : Nat → Option Nat) : Nat → Nat → Int32 → Int32 → Int32
  | 0, _, b, _ => b
  | g + 1, p, b, f => match run p with
    | none => bst run g (p + 1) b f
    | some n => if f ≤ nI n then bst run g (p + 1) b f else bst run g (p + 1) (nI p) (nI n)
theorem bst_n {run : Nat → Option Nat} {g p : Nat} {b f : Int32} (h : run p = none) : bst run (g + 1) p b f = bst run g (p + 1) b f := by
  unfold bst
  rw [h]
  cases g <;> rfl
theorem bst_s {run : Nat → Option Nat} {g p n : Nat} {b f : Int32} (h : run p = some n) : bst run (g + 1) p b f = if f ≤ nI n then bst run g (p + 1) b f else bst run g (p + 1) (nI p) (nI n) := by
  show (match run p with
    | none => bst run g (p + 1) b f
    | some n => if f ≤ nI n then bst run g (p + 1) b f else bst run g (p + 1) (nI p) (nI n)) = _
  rw [h]
theorem bst_ok {run : Nat → Option Nat} : ∀ g p b f, bst run g p b f = b ∨ ∃ p' n, p ≤ p' ∧ p' < p + g ∧ bst run g p b f = nI p' ∧ run p' = some n := by
  intro g
  induction g with
  | zero => intro p b f; exact Or.inl rfl
  | succ g ih =>
    intro p b f
    have up : ∀ b f, (bst run g (p + 1) b f = b ∨ ∃ p' n, p + 1 ≤ p' ∧ p' < p + 1 + g ∧ bst run g (p + 1) b f = nI p' ∧ run p' = some n) → (bst run g (p + 1) b f = b ∨ ∃ p' n, p ≤ p' ∧ p' < p + (g + 1) ∧ bst run g (p + 1) b f = nI p' ∧ run p' = some n) := by
      rintro b f (h | ⟨p', n, h1, h2, h3, h4⟩)
      · exact Or.inl h
      · exact Or.inr ⟨p', n, by omega, by omega, h3, h4⟩
    cases hr : run p with
    | none =>
      rw [bst_n hr]
      exact up b f (ih (p + 1) b f)
    | some n =>
      rw [bst_s hr]
      by_cases q : f ≤ nI n
      · rw [if_pos q]
        exact up b f (ih (p + 1) b f)
      · rw [if_neg q]
        rcases up (nI p) (nI n) (ih (p + 1) (nI p) (nI n)) with h | h
        · exact Or.inr ⟨p, n, Nat.le_refl _, by omega, h, hr⟩
        · exact Or.inr h
def rn (L R m : Nat) (D H : Nat → Nat) (n p : Nat) : Option Nat := (wls L R p m D H n 0 (0, fun _ => 0) (fun _ _ => (0, 0))).map fun x => x.1.1
def CFR (r : Nat) (iv iv' : IVt) : Prop := ∀ T i j, ¬ (T = 14 ∧ i = r) → ¬ (T = 15 ∧ i = r) → ¬ (T = 17 ∧ 4 * r ≤ i ∧ i < 4 * r + 4) → iv' T i j = iv T i j
theorem CFR.rfl {r : Nat} {iv : IVt} : CFR r iv iv := fun _ _ _ _ _ _ => Eq.refl _
theorem CFR.trans {r : Nat} {iv iv1 iv2 : IVt} (h1 : CFR r iv iv1) (h2 : CFR r iv1 iv2) : CFR r iv iv2 := fun T i j a b c => (h2 T i j a b c).trans (h1 T i j a b c)
theorem CFR.at {r T i j : Nat} {iv iv1 : IVt} (h1 : CFR r iv iv1) (hT : T ≠ 14 ∧ T ≠ 15 ∧ T ≠ 17) : iv1 T i j = iv T i j := h1 T i j (fun q => hT.1 q.1) (fun q => hT.2.1 q.1) (fun q => hT.2.2 q.1)
/-- the lot l of the roller q on the class's side -/
def CLT (A : Adr) (iv : IVt) (rv : RVt) (l q L R m : Nat) : Prop := A.2.2 11 l = true ∧ A.2.2 8 q = true ∧ A.2.2 9 q = true ∧ rv 11 l 0 = some (8, q) ∧ rv 8 q 1 = some (9, q) ∧ iv 11 l 4 = nI m ∧ iv 11 l 3 = nI L ∧ iv 9 q 1 = nI R ∧ m ≤ 20 ∧ L ≤ 200 ∧ R ≤ 10
section BE
variable {A : Adr} {rv : RVt} {ov : Nat → Int64} {z r l q L R m n : Nat} {D H : Nat → Nat}
theorem CLT.to {iv iv' : IVt} (h : CLT A iv rv l q L R m) (h11 : ∀ j, iv' 11 l j = iv 11 l j) (h9 : iv' 9 q 1 = iv 9 q 1) : CLT A iv' rv l q L R m := by
  obtain ⟨a1, a2, a3, a4, a5, a6, a7, a8, a9⟩ := h
  exact ⟨a1, a2, a3, a4, a5, (h11 4).trans a6, (h11 3).trans a7, h9.trans a8, a9⟩
theorem DH.to {iv iv' : IVt} (h : DH iv r n D H) (h16 : ∀ w j, w < n → iv' 16 (4 * r + w) j = iv 16 (4 * r + w) j) : DH iv' r n D H := fun w hw => by
  rw [h16 w 2 hw, h16 w 0 hw]
  exact h w hw
theorem best8 (hA : IN A) (hW : RW A rv r n) : ∀ g p N, p + g = R → g < N → ∀ (iv : IVt) (bb ff : Int32), DH iv r n D H → CLT A iv rv l q L R m → ∃ iv', F_X5_bestPhase_b8 N (A.1 12 r) (A.1 11 l) bb ff (nI p) (z, hv A iv rv ov) = rtv (bst (rn L R m D H n) g p bb ff) (z, hv A iv' rv ov) ∧ CFR r iv iv' := by
  obtain ⟨g1, g2, g3, g4, g5, g6, g7, g8, g9, g10⟩ := id hW
  intro g
  induction g with
  | zero =>
    intro p N hp hN iv bb ff hD hL
    obtain ⟨N, rfl⟩ : ∃ N', N = N' + 1 := ⟨N - 1, by omega⟩
    obtain ⟨a1, a2, a3, a4, a5, a6, a7, a8, a9, a10, a11⟩ := id hL
    unfold F_X5_bestPhase_b8 bst
    rw [gfR_hv hA a1 (by rfl) (by decide) (by rfl), a4, rfv_s, nn_s, gfR_hv hA a2 (by rfl) (by decide) (by rfl), a5, rfv_s, nn_s, gfI_hv hA a3 (by rfl) (by decide) (by rfl), a8, if_pos (nI_le (by omega) (by omega))]
    exact ⟨iv, rfl, CFR.rfl⟩
  | succ g ih =>
    intro p N hp hN iv bb ff hD hL
    obtain ⟨N, rfl⟩ : ∃ N', N = N' + 1 := ⟨N - 1, by omega⟩
    obtain ⟨a1, a2, a3, a4, a5, a6, a7, a8, a9, a10, a11⟩ := id hL
    obtain ⟨t1, t2⟩ := cutall_spec (z := z) (ov := ov) (p := p) (fun _ _ => (0, 0)) hA hW hD a1 a2 a3 a4 a5 a6 a7 a8 a9 a10 a11 (by omega)
    unfold F_X5_bestPhase_b8 F_X5_bestPhase_b55
    rw [gfR_hv hA a1 (by rfl) (by decide) (by rfl), a4, rfv_s, nn_s, gfR_hv hA a2 (by rfl) (by decide) (by rfl), a5, rfv_s, nn_s, gfI_hv hA a3 (by rfl) (by decide) (by rfl), a8, if_neg (nI_ge (by omega) (by omega)), isO_hv hA g1 (by rfl) (by decide)]
    cases hw : wls L R p m D H n 0 (0, fun _ => 0) (fun _ _ => (0, 0)) with
    | none =>
      obtain ⟨iv1, e1, e2⟩ := t1 hw
      have F1 : CFR r iv iv1 := e2
      obtain ⟨iv', i1, i2⟩ := ih (p + 1) N (by omega) (by omega) iv1 bb ff (hD.to (fun w j _ => F1.at (by decide))) (hL.to (fun _ => F1.at (by decide)) (F1.at (by decide)))
      have er : rn L R m D H n p = none := by
        unfold rn
        rw [hw]
        rfl
      rw [e1, bnd_v, if_pos rfl, nI_1, i1, bst_n er]
      exact ⟨iv', rfl, F1.trans i2⟩
    | some sc =>
      obtain ⟨s', C'⟩ := sc
      obtain ⟨iv1, e1, e2, e3, e4⟩ := t2 s' C' hw
      have F1 : CFR r iv iv1 := e2
      have er : rn L R m D H n p = some s'.1 := by
        unfold rn
        rw [hw]
        rfl
      rw [e1, bnd_v, if_neg (by decide), gfR_hv hA g1 (by rfl) (by decide) (by rfl), g6, rfv_s, nn_s, gfI_hv hA g3 (by rfl) (by decide) (by rfl), e3.2.2.2.1, bst_s er]
      by_cases qf : ff ≤ nI s'.1
      · obtain ⟨iv', i1, i2⟩ := ih (p + 1) N (by omega) (by omega) iv1 bb ff (hD.to (fun w j _ => F1.at (by decide))) (hL.to (fun _ => F1.at (by decide)) (F1.at (by decide)))
        rw [if_pos qf, if_pos qf, nI_1, i1]
        exact ⟨iv', rfl, F1.trans i2⟩
      · obtain ⟨iv', i1, i2⟩ := ih (p + 1) N (by omega) (by omega) iv1 (nI p) (nI s'.1) (hD.to (fun w j _ => F1.at (by decide))) (hL.to (fun _ => F1.at (by decide)) (F1.at (by decide)))
        rw [if_neg qf, if_neg qf, gfR_hv hA g1 (by rfl) (by decide) (by rfl), g6, rfv_s, nn_s, gfI_hv hA g3 (by rfl) (by decide) (by rfl), e3.2.2.2.1, nI_1, i1]
        exact ⟨iv', rfl, F1.trans i2⟩
end BE
