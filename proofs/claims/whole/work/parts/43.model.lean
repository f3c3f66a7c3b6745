/-! the reference: its fields and arrays (laid by wip/gen/genpure.py) -/
def mfL : List (Nat × Nat) := [(2, 21), (3, 22), (4, 23), (5, 24), (7, 25), (8, 26), (9, 27), (11, 28), (12, 29), (13, 30), (14, 31), (15, 32), (16, 33), (17, 34), (18, 35), (19, 36), (20, 37), (21, 38), (22, 39), (26, 40), (27, 41)]
def MD (A : Adr) (rv : RVt) : Prop := IN A ∧ A.2.2 20 0 = true ∧ ∀ p ∈ mfL, rv 20 0 p.1 = some (p.2, 0) ∧ A.2.2 p.2 0 = true
section MO
variable {A : Adr} {iv : IVt} {rv : RVt} {ov : Nat → Int64} {z k : Nat} {α : Type}
theorem mO {K : Rs α} (hM : MD A rv) : isO (z, hv A iv rv ov) (A.1 20 0) 8 K = K := isO_hv hM.1 hM.2.1 (by rfl) (by decide)
theorem mI0 {K : Int32 → Rs α} (hM : MD A rv) : gfI (z, hv A iv rv ov) (A.1 20 0) 8 0 K = K (iv 20 0 0) := gfI_hv hM.1 hM.2.1 (by rfl) (by decide) (by rfl)
theorem mP0 {K : hpT → Rs α} {x : Int32} (hM : MD A rv) : pf (z, hv A iv rv ov) (A.1 20 0) 8 0 (.int x) K = K (z, hv A (u3 iv 20 0 0 x) rv ov) := pf_hv hM.1 hM.2.1 (by rfl) (by decide) (by rfl)
theorem mI1 {K : Int32 → Rs α} (hM : MD A rv) : gfI (z, hv A iv rv ov) (A.1 20 0) 8 1 K = K (iv 20 0 1) := gfI_hv hM.1 hM.2.1 (by rfl) (by decide) (by rfl)
theorem mP1 {K : hpT → Rs α} {x : Int32} (hM : MD A rv) : pf (z, hv A iv rv ov) (A.1 20 0) 8 1 (.int x) K = K (z, hv A (u3 iv 20 0 1 x) rv ov) := pf_hv hM.1 hM.2.1 (by rfl) (by decide) (by rfl)
theorem mI6 {K : Int32 → Rs α} (hM : MD A rv) : gfI (z, hv A iv rv ov) (A.1 20 0) 8 6 K = K (iv 20 0 6) := gfI_hv hM.1 hM.2.1 (by rfl) (by decide) (by rfl)
theorem mP6 {K : hpT → Rs α} {x : Int32} (hM : MD A rv) : pf (z, hv A iv rv ov) (A.1 20 0) 8 6 (.int x) K = K (z, hv A (u3 iv 20 0 6 x) rv ov) := pf_hv hM.1 hM.2.1 (by rfl) (by decide) (by rfl)
theorem mI10 {K : Int32 → Rs α} (hM : MD A rv) : gfI (z, hv A iv rv ov) (A.1 20 0) 8 10 K = K (iv 20 0 10) := gfI_hv hM.1 hM.2.1 (by rfl) (by decide) (by rfl)
theorem mP10 {K : hpT → Rs α} {x : Int32} (hM : MD A rv) : pf (z, hv A iv rv ov) (A.1 20 0) 8 10 (.int x) K = K (z, hv A (u3 iv 20 0 10 x) rv ov) := pf_hv hM.1 hM.2.1 (by rfl) (by decide) (by rfl)
theorem mI23 {K : Int32 → Rs α} (hM : MD A rv) : gfI (z, hv A iv rv ov) (A.1 20 0) 8 23 K = K (iv 20 0 23) := gfI_hv hM.1 hM.2.1 (by rfl) (by decide) (by rfl)
theorem mP23 {K : hpT → Rs α} {x : Int32} (hM : MD A rv) : pf (z, hv A iv rv ov) (A.1 20 0) 8 23 (.int x) K = K (z, hv A (u3 iv 20 0 23 x) rv ov) := pf_hv hM.1 hM.2.1 (by rfl) (by decide) (by rfl)
theorem mI24 {K : Int32 → Rs α} (hM : MD A rv) : gfI (z, hv A iv rv ov) (A.1 20 0) 8 24 K = K (iv 20 0 24) := gfI_hv hM.1 hM.2.1 (by rfl) (by decide) (by rfl)
theorem mP24 {K : hpT → Rs α} {x : Int32} (hM : MD A rv) : pf (z, hv A iv rv ov) (A.1 20 0) 8 24 (.int x) K = K (z, hv A (u3 iv 20 0 24 x) rv ov) := pf_hv hM.1 hM.2.1 (by rfl) (by decide) (by rfl)
theorem mI25 {K : Int32 → Rs α} (hM : MD A rv) : gfI (z, hv A iv rv ov) (A.1 20 0) 8 25 K = K (iv 20 0 25) := gfI_hv hM.1 hM.2.1 (by rfl) (by decide) (by rfl)
theorem mP25 {K : hpT → Rs α} {x : Int32} (hM : MD A rv) : pf (z, hv A iv rv ov) (A.1 20 0) 8 25 (.int x) K = K (z, hv A (u3 iv 20 0 25 x) rv ov) := pf_hv hM.1 hM.2.1 (by rfl) (by decide) (by rfl)
theorem mI28 {K : Int32 → Rs α} (hM : MD A rv) : gfI (z, hv A iv rv ov) (A.1 20 0) 8 28 K = K (iv 20 0 28) := gfI_hv hM.1 hM.2.1 (by rfl) (by decide) (by rfl)
theorem mP28 {K : hpT → Rs α} {x : Int32} (hM : MD A rv) : pf (z, hv A iv rv ov) (A.1 20 0) 8 28 (.int x) K = K (z, hv A (u3 iv 20 0 28 x) rv ov) := pf_hv hM.1 hM.2.1 (by rfl) (by decide) (by rfl)
theorem mR2 {K : Option Nat → Rs α} (hM : MD A rv) : gfR (z, hv A iv rv ov) (A.1 20 0) 8 2 K = K (some (A.1 21 0)) := by rw [gfR_hv hM.1 hM.2.1 (by rfl) (by decide) (by rfl), (hM.2.2 (2, 21) (by decide)).1]; rfl
theorem mA2 {K : Int32 → Rs α} (hM : MD A rv) (h : k < 6) : ald (z, hv A iv rv ov) (A.1 21 0) (nI k) K = K (iv 21 0 k) := ald_hv hM.1 (hM.2.2 (2, 21) (by decide)).2 (by rfl) h
theorem mS2 {K : hpT → Rs α} {x : Int32} (hM : MD A rv) (h : k < 6) : ast (z, hv A iv rv ov) (A.1 21 0) (nI k) x K = K (z, hv A (u3 iv 21 0 k x) rv ov) := ast_hv hM.1 (hM.2.2 (2, 21) (by decide)).2 (by rfl) h
theorem mR3 {K : Option Nat → Rs α} (hM : MD A rv) : gfR (z, hv A iv rv ov) (A.1 20 0) 8 3 K = K (some (A.1 22 0)) := by rw [gfR_hv hM.1 hM.2.1 (by rfl) (by decide) (by rfl), (hM.2.2 (3, 22) (by decide)).1]; rfl
theorem mA3 {K : Int32 → Rs α} (hM : MD A rv) (h : k < 6) : ald (z, hv A iv rv ov) (A.1 22 0) (nI k) K = K (iv 22 0 k) := ald_hv hM.1 (hM.2.2 (3, 22) (by decide)).2 (by rfl) h
theorem mS3 {K : hpT → Rs α} {x : Int32} (hM : MD A rv) (h : k < 6) : ast (z, hv A iv rv ov) (A.1 22 0) (nI k) x K = K (z, hv A (u3 iv 22 0 k x) rv ov) := ast_hv hM.1 (hM.2.2 (3, 22) (by decide)).2 (by rfl) h
theorem mR4 {K : Option Nat → Rs α} (hM : MD A rv) : gfR (z, hv A iv rv ov) (A.1 20 0) 8 4 K = K (some (A.1 23 0)) := by rw [gfR_hv hM.1 hM.2.1 (by rfl) (by decide) (by rfl), (hM.2.2 (4, 23) (by decide)).1]; rfl
theorem mA4 {K : Int32 → Rs α} (hM : MD A rv) (h : k < 6) : ald (z, hv A iv rv ov) (A.1 23 0) (nI k) K = K (iv 23 0 k) := ald_hv hM.1 (hM.2.2 (4, 23) (by decide)).2 (by rfl) h
theorem mS4 {K : hpT → Rs α} {x : Int32} (hM : MD A rv) (h : k < 6) : ast (z, hv A iv rv ov) (A.1 23 0) (nI k) x K = K (z, hv A (u3 iv 23 0 k x) rv ov) := ast_hv hM.1 (hM.2.2 (4, 23) (by decide)).2 (by rfl) h
theorem mR5 {K : Option Nat → Rs α} (hM : MD A rv) : gfR (z, hv A iv rv ov) (A.1 20 0) 8 5 K = K (some (A.1 24 0)) := by rw [gfR_hv hM.1 hM.2.1 (by rfl) (by decide) (by rfl), (hM.2.2 (5, 24) (by decide)).1]; rfl
theorem mA5 {K : Int32 → Rs α} (hM : MD A rv) (h : k < 150) : ald (z, hv A iv rv ov) (A.1 24 0) (nI k) K = K (iv 24 0 k) := ald_hv hM.1 (hM.2.2 (5, 24) (by decide)).2 (by rfl) h
theorem mS5 {K : hpT → Rs α} {x : Int32} (hM : MD A rv) (h : k < 150) : ast (z, hv A iv rv ov) (A.1 24 0) (nI k) x K = K (z, hv A (u3 iv 24 0 k x) rv ov) := ast_hv hM.1 (hM.2.2 (5, 24) (by decide)).2 (by rfl) h
theorem mR7 {K : Option Nat → Rs α} (hM : MD A rv) : gfR (z, hv A iv rv ov) (A.1 20 0) 8 7 K = K (some (A.1 25 0)) := by rw [gfR_hv hM.1 hM.2.1 (by rfl) (by decide) (by rfl), (hM.2.2 (7, 25) (by decide)).1]; rfl
theorem mA7 {K : Int32 → Rs α} (hM : MD A rv) (h : k < 8) : ald (z, hv A iv rv ov) (A.1 25 0) (nI k) K = K (iv 25 0 k) := ald_hv hM.1 (hM.2.2 (7, 25) (by decide)).2 (by rfl) h
theorem mS7 {K : hpT → Rs α} {x : Int32} (hM : MD A rv) (h : k < 8) : ast (z, hv A iv rv ov) (A.1 25 0) (nI k) x K = K (z, hv A (u3 iv 25 0 k x) rv ov) := ast_hv hM.1 (hM.2.2 (7, 25) (by decide)).2 (by rfl) h
theorem mR8 {K : Option Nat → Rs α} (hM : MD A rv) : gfR (z, hv A iv rv ov) (A.1 20 0) 8 8 K = K (some (A.1 26 0)) := by rw [gfR_hv hM.1 hM.2.1 (by rfl) (by decide) (by rfl), (hM.2.2 (8, 26) (by decide)).1]; rfl
theorem mA8 {K : Int32 → Rs α} (hM : MD A rv) (h : k < 8) : ald (z, hv A iv rv ov) (A.1 26 0) (nI k) K = K (iv 26 0 k) := ald_hv hM.1 (hM.2.2 (8, 26) (by decide)).2 (by rfl) h
theorem mS8 {K : hpT → Rs α} {x : Int32} (hM : MD A rv) (h : k < 8) : ast (z, hv A iv rv ov) (A.1 26 0) (nI k) x K = K (z, hv A (u3 iv 26 0 k x) rv ov) := ast_hv hM.1 (hM.2.2 (8, 26) (by decide)).2 (by rfl) h
theorem mR9 {K : Option Nat → Rs α} (hM : MD A rv) : gfR (z, hv A iv rv ov) (A.1 20 0) 8 9 K = K (some (A.1 27 0)) := by rw [gfR_hv hM.1 hM.2.1 (by rfl) (by decide) (by rfl), (hM.2.2 (9, 27) (by decide)).1]; rfl
theorem mA9 {K : Int32 → Rs α} (hM : MD A rv) (h : k < 800) : ald (z, hv A iv rv ov) (A.1 27 0) (nI k) K = K (iv 27 0 k) := ald_hv hM.1 (hM.2.2 (9, 27) (by decide)).2 (by rfl) h
theorem mS9 {K : hpT → Rs α} {x : Int32} (hM : MD A rv) (h : k < 800) : ast (z, hv A iv rv ov) (A.1 27 0) (nI k) x K = K (z, hv A (u3 iv 27 0 k x) rv ov) := ast_hv hM.1 (hM.2.2 (9, 27) (by decide)).2 (by rfl) h
theorem mR11 {K : Option Nat → Rs α} (hM : MD A rv) : gfR (z, hv A iv rv ov) (A.1 20 0) 8 11 K = K (some (A.1 28 0)) := by rw [gfR_hv hM.1 hM.2.1 (by rfl) (by decide) (by rfl), (hM.2.2 (11, 28) (by decide)).1]; rfl
theorem mA11 {K : Int32 → Rs α} (hM : MD A rv) (h : k < 10) : ald (z, hv A iv rv ov) (A.1 28 0) (nI k) K = K (iv 28 0 k) := ald_hv hM.1 (hM.2.2 (11, 28) (by decide)).2 (by rfl) h
theorem mS11 {K : hpT → Rs α} {x : Int32} (hM : MD A rv) (h : k < 10) : ast (z, hv A iv rv ov) (A.1 28 0) (nI k) x K = K (z, hv A (u3 iv 28 0 k x) rv ov) := ast_hv hM.1 (hM.2.2 (11, 28) (by decide)).2 (by rfl) h
theorem mR12 {K : Option Nat → Rs α} (hM : MD A rv) : gfR (z, hv A iv rv ov) (A.1 20 0) 8 12 K = K (some (A.1 29 0)) := by rw [gfR_hv hM.1 hM.2.1 (by rfl) (by decide) (by rfl), (hM.2.2 (12, 29) (by decide)).1]; rfl
theorem mA12 {K : Int32 → Rs α} (hM : MD A rv) (h : k < 10) : ald (z, hv A iv rv ov) (A.1 29 0) (nI k) K = K (iv 29 0 k) := ald_hv hM.1 (hM.2.2 (12, 29) (by decide)).2 (by rfl) h
theorem mS12 {K : hpT → Rs α} {x : Int32} (hM : MD A rv) (h : k < 10) : ast (z, hv A iv rv ov) (A.1 29 0) (nI k) x K = K (z, hv A (u3 iv 29 0 k x) rv ov) := ast_hv hM.1 (hM.2.2 (12, 29) (by decide)).2 (by rfl) h
theorem mR13 {K : Option Nat → Rs α} (hM : MD A rv) : gfR (z, hv A iv rv ov) (A.1 20 0) 8 13 K = K (some (A.1 30 0)) := by rw [gfR_hv hM.1 hM.2.1 (by rfl) (by decide) (by rfl), (hM.2.2 (13, 30) (by decide)).1]; rfl
theorem mA13 {K : Int32 → Rs α} (hM : MD A rv) (h : k < 10) : ald (z, hv A iv rv ov) (A.1 30 0) (nI k) K = K (iv 30 0 k) := ald_hv hM.1 (hM.2.2 (13, 30) (by decide)).2 (by rfl) h
theorem mS13 {K : hpT → Rs α} {x : Int32} (hM : MD A rv) (h : k < 10) : ast (z, hv A iv rv ov) (A.1 30 0) (nI k) x K = K (z, hv A (u3 iv 30 0 k x) rv ov) := ast_hv hM.1 (hM.2.2 (13, 30) (by decide)).2 (by rfl) h
theorem mR14 {K : Option Nat → Rs α} (hM : MD A rv) : gfR (z, hv A iv rv ov) (A.1 20 0) 8 14 K = K (some (A.1 31 0)) := by rw [gfR_hv hM.1 hM.2.1 (by rfl) (by decide) (by rfl), (hM.2.2 (14, 31) (by decide)).1]; rfl
theorem mA14 {K : Int32 → Rs α} (hM : MD A rv) (h : k < 10) : ald (z, hv A iv rv ov) (A.1 31 0) (nI k) K = K (iv 31 0 k) := ald_hv hM.1 (hM.2.2 (14, 31) (by decide)).2 (by rfl) h
theorem mS14 {K : hpT → Rs α} {x : Int32} (hM : MD A rv) (h : k < 10) : ast (z, hv A iv rv ov) (A.1 31 0) (nI k) x K = K (z, hv A (u3 iv 31 0 k x) rv ov) := ast_hv hM.1 (hM.2.2 (14, 31) (by decide)).2 (by rfl) h
theorem mR15 {K : Option Nat → Rs α} (hM : MD A rv) : gfR (z, hv A iv rv ov) (A.1 20 0) 8 15 K = K (some (A.1 32 0)) := by rw [gfR_hv hM.1 hM.2.1 (by rfl) (by decide) (by rfl), (hM.2.2 (15, 32) (by decide)).1]; rfl
theorem mA15 {K : Int32 → Rs α} (hM : MD A rv) (h : k < 4) : ald (z, hv A iv rv ov) (A.1 32 0) (nI k) K = K (iv 32 0 k) := ald_hv hM.1 (hM.2.2 (15, 32) (by decide)).2 (by rfl) h
theorem mS15 {K : hpT → Rs α} {x : Int32} (hM : MD A rv) (h : k < 4) : ast (z, hv A iv rv ov) (A.1 32 0) (nI k) x K = K (z, hv A (u3 iv 32 0 k x) rv ov) := ast_hv hM.1 (hM.2.2 (15, 32) (by decide)).2 (by rfl) h
theorem mR16 {K : Option Nat → Rs α} (hM : MD A rv) : gfR (z, hv A iv rv ov) (A.1 20 0) 8 16 K = K (some (A.1 33 0)) := by rw [gfR_hv hM.1 hM.2.1 (by rfl) (by decide) (by rfl), (hM.2.2 (16, 33) (by decide)).1]; rfl
theorem mA16 {K : Int32 → Rs α} (hM : MD A rv) (h : k < 16) : ald (z, hv A iv rv ov) (A.1 33 0) (nI k) K = K (iv 33 0 k) := ald_hv hM.1 (hM.2.2 (16, 33) (by decide)).2 (by rfl) h
theorem mS16 {K : hpT → Rs α} {x : Int32} (hM : MD A rv) (h : k < 16) : ast (z, hv A iv rv ov) (A.1 33 0) (nI k) x K = K (z, hv A (u3 iv 33 0 k x) rv ov) := ast_hv hM.1 (hM.2.2 (16, 33) (by decide)).2 (by rfl) h
theorem mR17 {K : Option Nat → Rs α} (hM : MD A rv) : gfR (z, hv A iv rv ov) (A.1 20 0) 8 17 K = K (some (A.1 34 0)) := by rw [gfR_hv hM.1 hM.2.1 (by rfl) (by decide) (by rfl), (hM.2.2 (17, 34) (by decide)).1]; rfl
theorem mA17 {K : Int32 → Rs α} (hM : MD A rv) (h : k < 16) : ald (z, hv A iv rv ov) (A.1 34 0) (nI k) K = K (iv 34 0 k) := ald_hv hM.1 (hM.2.2 (17, 34) (by decide)).2 (by rfl) h
theorem mS17 {K : hpT → Rs α} {x : Int32} (hM : MD A rv) (h : k < 16) : ast (z, hv A iv rv ov) (A.1 34 0) (nI k) x K = K (z, hv A (u3 iv 34 0 k x) rv ov) := ast_hv hM.1 (hM.2.2 (17, 34) (by decide)).2 (by rfl) h
theorem mR18 {K : Option Nat → Rs α} (hM : MD A rv) : gfR (z, hv A iv rv ov) (A.1 20 0) 8 18 K = K (some (A.1 35 0)) := by rw [gfR_hv hM.1 hM.2.1 (by rfl) (by decide) (by rfl), (hM.2.2 (18, 35) (by decide)).1]; rfl
theorem mA18 {K : Int32 → Rs α} (hM : MD A rv) (h : k < 4) : ald (z, hv A iv rv ov) (A.1 35 0) (nI k) K = K (iv 35 0 k) := ald_hv hM.1 (hM.2.2 (18, 35) (by decide)).2 (by rfl) h
theorem mS18 {K : hpT → Rs α} {x : Int32} (hM : MD A rv) (h : k < 4) : ast (z, hv A iv rv ov) (A.1 35 0) (nI k) x K = K (z, hv A (u3 iv 35 0 k x) rv ov) := ast_hv hM.1 (hM.2.2 (18, 35) (by decide)).2 (by rfl) h
theorem mR19 {K : Option Nat → Rs α} (hM : MD A rv) : gfR (z, hv A iv rv ov) (A.1 20 0) 8 19 K = K (some (A.1 36 0)) := by rw [gfR_hv hM.1 hM.2.1 (by rfl) (by decide) (by rfl), (hM.2.2 (19, 36) (by decide)).1]; rfl
theorem mA19 {K : Int32 → Rs α} (hM : MD A rv) (h : k < 4) : ald (z, hv A iv rv ov) (A.1 36 0) (nI k) K = K (iv 36 0 k) := ald_hv hM.1 (hM.2.2 (19, 36) (by decide)).2 (by rfl) h
theorem mS19 {K : hpT → Rs α} {x : Int32} (hM : MD A rv) (h : k < 4) : ast (z, hv A iv rv ov) (A.1 36 0) (nI k) x K = K (z, hv A (u3 iv 36 0 k x) rv ov) := ast_hv hM.1 (hM.2.2 (19, 36) (by decide)).2 (by rfl) h
theorem mR20 {K : Option Nat → Rs α} (hM : MD A rv) : gfR (z, hv A iv rv ov) (A.1 20 0) 8 20 K = K (some (A.1 37 0)) := by rw [gfR_hv hM.1 hM.2.1 (by rfl) (by decide) (by rfl), (hM.2.2 (20, 37) (by decide)).1]; rfl
theorem mA20 {K : Int32 → Rs α} (hM : MD A rv) (h : k < 4) : ald (z, hv A iv rv ov) (A.1 37 0) (nI k) K = K (iv 37 0 k) := ald_hv hM.1 (hM.2.2 (20, 37) (by decide)).2 (by rfl) h
theorem mS20 {K : hpT → Rs α} {x : Int32} (hM : MD A rv) (h : k < 4) : ast (z, hv A iv rv ov) (A.1 37 0) (nI k) x K = K (z, hv A (u3 iv 37 0 k x) rv ov) := ast_hv hM.1 (hM.2.2 (20, 37) (by decide)).2 (by rfl) h
theorem mR21 {K : Option Nat → Rs α} (hM : MD A rv) : gfR (z, hv A iv rv ov) (A.1 20 0) 8 21 K = K (some (A.1 38 0)) := by rw [gfR_hv hM.1 hM.2.1 (by rfl) (by decide) (by rfl), (hM.2.2 (21, 38) (by decide)).1]; rfl
theorem mA21 {K : Int32 → Rs α} (hM : MD A rv) (h : k < 80) : ald (z, hv A iv rv ov) (A.1 38 0) (nI k) K = K (iv 38 0 k) := ald_hv hM.1 (hM.2.2 (21, 38) (by decide)).2 (by rfl) h
theorem mS21 {K : hpT → Rs α} {x : Int32} (hM : MD A rv) (h : k < 80) : ast (z, hv A iv rv ov) (A.1 38 0) (nI k) x K = K (z, hv A (u3 iv 38 0 k x) rv ov) := ast_hv hM.1 (hM.2.2 (21, 38) (by decide)).2 (by rfl) h
theorem mR22 {K : Option Nat → Rs α} (hM : MD A rv) : gfR (z, hv A iv rv ov) (A.1 20 0) 8 22 K = K (some (A.1 39 0)) := by rw [gfR_hv hM.1 hM.2.1 (by rfl) (by decide) (by rfl), (hM.2.2 (22, 39) (by decide)).1]; rfl
theorem mA22 {K : Int32 → Rs α} (hM : MD A rv) (h : k < 20) : ald (z, hv A iv rv ov) (A.1 39 0) (nI k) K = K (iv 39 0 k) := ald_hv hM.1 (hM.2.2 (22, 39) (by decide)).2 (by rfl) h
theorem mS22 {K : hpT → Rs α} {x : Int32} (hM : MD A rv) (h : k < 20) : ast (z, hv A iv rv ov) (A.1 39 0) (nI k) x K = K (z, hv A (u3 iv 39 0 k x) rv ov) := ast_hv hM.1 (hM.2.2 (22, 39) (by decide)).2 (by rfl) h
theorem mR26 {K : Option Nat → Rs α} (hM : MD A rv) : gfR (z, hv A iv rv ov) (A.1 20 0) 8 26 K = K (some (A.1 40 0)) := by rw [gfR_hv hM.1 hM.2.1 (by rfl) (by decide) (by rfl), (hM.2.2 (26, 40) (by decide)).1]; rfl
theorem mA26 {K : Int32 → Rs α} (hM : MD A rv) (h : k < 384) : ald (z, hv A iv rv ov) (A.1 40 0) (nI k) K = K (iv 40 0 k) := ald_hv hM.1 (hM.2.2 (26, 40) (by decide)).2 (by rfl) h
theorem mS26 {K : hpT → Rs α} {x : Int32} (hM : MD A rv) (h : k < 384) : ast (z, hv A iv rv ov) (A.1 40 0) (nI k) x K = K (z, hv A (u3 iv 40 0 k x) rv ov) := ast_hv hM.1 (hM.2.2 (26, 40) (by decide)).2 (by rfl) h
theorem mR27 {K : Option Nat → Rs α} (hM : MD A rv) : gfR (z, hv A iv rv ov) (A.1 20 0) 8 27 K = K (some (A.1 41 0)) := by rw [gfR_hv hM.1 hM.2.1 (by rfl) (by decide) (by rfl), (hM.2.2 (27, 41) (by decide)).1]; rfl
theorem mA27 {K : Int32 → Rs α} (hM : MD A rv) (h : k < 384) : ald (z, hv A iv rv ov) (A.1 41 0) (nI k) K = K (iv 41 0 k) := ald_hv hM.1 (hM.2.2 (27, 41) (by decide)).2 (by rfl) h
theorem mS27 {K : hpT → Rs α} {x : Int32} (hM : MD A rv) (h : k < 384) : ast (z, hv A iv rv ov) (A.1 41 0) (nI k) x K = K (z, hv A (u3 iv 41 0 k x) rv ov) := ast_hv hM.1 (hM.2.2 (27, 41) (by decide)).2 (by rfl) h
end MO
theorem L0 : (0 : Int32) = nI 0 := rfl
theorem L1 : (1 : Int32) = nI 1 := rfl
theorem L2 : (2 : Int32) = nI 2 := rfl
theorem L3 : (3 : Int32) = nI 3 := rfl
theorem L4 : (4 : Int32) = nI 4 := rfl
theorem L5 : (5 : Int32) = nI 5 := rfl
theorem L6 : (6 : Int32) = nI 6 := rfl
theorem L7 : (7 : Int32) = nI 7 := rfl
theorem L8 : (8 : Int32) = nI 8 := rfl
theorem L9 : (9 : Int32) = nI 9 := rfl
theorem L10 : (10 : Int32) = nI 10 := rfl
theorem L12 : (12 : Int32) = nI 12 := rfl
theorem L20 : (20 : Int32) = nI 20 := rfl
theorem L21 : (21 : Int32) = nI 21 := rfl
theorem L24 : (24 : Int32) = nI 24 := rfl
theorem L25 : (25 : Int32) = nI 25 := rfl
theorem L60 : (60 : Int32) = nI 60 := rfl
theorem L100 : (100 : Int32) = nI 100 := rfl
theorem L200 : (200 : Int32) = nI 200 := rfl
theorem L1000 : (1000 : Int32) = nI 1000 := rfl
