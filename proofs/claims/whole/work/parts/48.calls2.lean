theorem i_rg {l m : Nat} (hl : l ≤ m) (hm : m < 1000000000) (x : Int32) : (∃ q, l ≤ q ∧ q ≤ m ∧ x = nI q) ∨ (x < nI l ∨ (¬ x < nI l ∧ nI (m + 1) ≤ x)) := by
  by_cases h : x < nI l
  · exact Or.inr (Or.inl h)
  · by_cases h2 : nI (m + 1) ≤ x
    · exact Or.inr (Or.inr ⟨h, h2⟩)
    · rcases i_in (m := m + 1) (by omega) x with ⟨q, hq, e⟩ | hx | hx
      · refine Or.inl ⟨q, ?_, by omega, e⟩
        rw [e] at h
        exact (nI_leI (by omega) (by omega)).mp (Int32.not_lt.mp h)
      · exact absurd hx (Int32.not_lt.mpr (show (0 : Int32) ≤ x from Int32.le_trans ((nI_leI (by decide) (by omega)).mpr (Nat.zero_le l)) (Int32.not_lt.mp h)))
      · exact absurd hx.2 h2
theorem op_size {sc : SC} {a : AB} (hA : AV a) (x : Int32) : ∃ (c : Nat) (a' : AB) (v : Int32), c ≤ 3 ∧ AV a' ∧ (∀ σ, CI9 σ a → Cs (true, true) sc mL_size 1 6 [.ref 0, .int x, .ref 76] σ (PC σ c a' (v.toInt64))) ∧ (∀ σ, MI9 σ a → Cs (true, true) sc mX10_size 0 0 [.ref 53, .int x] σ (PM σ c a' v)) := by
  have hV := hA.1
  have hC := vC hV
  have hL := hA.2.2.2.2.1.1
  rcases i_in (m := 10) (by omega) x with ⟨p, hp, rfl⟩ | hx
  · skip
    exact ⟨0, a, szv (aD a) p, by decide, hA, fun σ hI => l_size (PI_CF hI (c_size hA hI (by omega))), fun σ hI => QM_PM (k_size hA hI (by omega)) (fun _ => rfl)⟩
  · skip
    exact ⟨1, a, 0, by decide, hA, fun σ hI => l_size_1 hI (x_size_W hA hI hx), fun σ hI => QM_PM (y_size_W hA hI hx) (fun z => absurd z (by decide))⟩
theorem op_account {sc : SC} {a : AB} (hA : AV a) (x : Int32) : ∃ (c : Nat) (a' : AB) (v : Int32), c ≤ 3 ∧ AV a' ∧ (∀ σ, CI9 σ a → Cs (true, true) sc mL_account 1 6 [.ref 0, .int x, .ref 76] σ (PC σ c a' (v.toInt64))) ∧ (∀ σ, MI9 σ a → Cs (true, true) sc mX10_account 0 0 [.ref 53, .int x] σ (PM σ c a' v)) := by
  have hV := hA.1
  have hC := vC hV
  have hL := hA.2.2.2.2.1.1
  rcases i_in (m := 10) (by omega) x with ⟨p, hp, rfl⟩ | hx
  · skip
    exact ⟨0, a, acv (aD a) p, by decide, hA, fun σ hI => l_account (PI_CF hI (c_account hA hI (by omega))), fun σ hI => QM_PM (k_account hA hI (by omega)) (fun _ => rfl)⟩
  · skip
    exact ⟨1, a, 0, by decide, hA, fun σ hI => l_account_1 hI (x_account_W hA hI hx), fun σ hI => QM_PM (y_account_W hA hI hx) (fun z => absurd z (by decide))⟩
theorem op_isEmpty {sc : SC} {a : AB} (hA : AV a) (x : Int32) : ∃ (c : Nat) (a' : AB) (v : Int32), c ≤ 3 ∧ AV a' ∧ (∀ σ, CI9 σ a → Cs (true, true) sc mL_isEmpty 1 6 [.ref 0, .int x, .ref 76] σ (PC σ c a' (bJ v))) ∧ (∀ σ, MI9 σ a → Cs (true, true) sc mX10_isEmpty 0 0 [.ref 53, .int x] σ (PM σ c a' v)) := by
  have hV := hA.1
  have hC := vC hV
  have hL := hA.2.2.2.2.1.1
  rcases i_in (m := aD a 0 0) (by omega) x with ⟨p, hp, rfl⟩ | hx
  · skip
    exact ⟨0, a, nI (tb (!(isL (aD a) p))), by decide, hA, fun σ hI => l_isEmpty (PI_CF hI (c_isEmpty hA hI hp)), fun σ hI => QM_PM (k_isEmpty hA hI hp) (fun _ => rfl)⟩
  · skip
    exact ⟨1, a, 0, by decide, hA, fun σ hI => l_isEmpty_0 hI (x_isEmpty_P hA hI hx), fun σ hI => QM_PM (y_isEmpty_P hA hI hx) (fun z => absurd z (by decide))⟩
theorem op_given {sc : SC} {a : AB} (hA : AV a) (x : Int32) : ∃ (c : Nat) (a' : AB) (v : Int32), c ≤ 3 ∧ AV a' ∧ (∀ σ, CI9 σ a → Cs (true, true) sc mL_given 1 6 [.ref 0, .int x, .ref 76] σ (PC σ c a' (v.toInt64))) ∧ (∀ σ, MI9 σ a → Cs (true, true) sc mX10_given 0 0 [.ref 53, .int x] σ (PM σ c a' v)) := by
  have hV := hA.1
  have hC := vC hV
  have hL := hA.2.2.2.2.1.1
  rcases i_in (m := aD a 0 0) (by omega) x with ⟨p, hp, rfl⟩ | hx
  · skip
    exact ⟨0, a, gv (aD a) p, by decide, hA, fun σ hI => l_given (PI_CF hI (c_given hA hI hp)), fun σ hI => QM_PM (k_given hA hI hp) (fun _ => rfl)⟩
  · skip
    exact ⟨1, a, 0, by decide, hA, fun σ hI => l_given_0 hI (x_given_P hA hI hx), fun σ hI => QM_PM (y_given_P hA hI hx) (fun z => absurd z (by decide))⟩
theorem op_helper {sc : SC} {a : AB} (hA : AV a) (x : Int32) : ∃ (c : Nat) (a' : AB) (v : Int32), c ≤ 3 ∧ AV a' ∧ (∀ σ, CI9 σ a → Cs (true, true) sc mL_helper 1 6 [.ref 0, .int x, .ref 76] σ (PC σ c a' (v.toInt64))) ∧ (∀ σ, MI9 σ a → Cs (true, true) sc mX10_helper 0 0 [.ref 53, .int x] σ (PM σ c a' v)) := by
  have hV := hA.1
  have hC := vC hV
  have hL := hA.2.2.2.2.1.1
  rcases i_in (m := aD a 0 0) (by omega) x with ⟨p, hp, rfl⟩ | hx
  · skip
    exact ⟨0, a, oI (hp9 (aD a) p (aD a 0 0)).1, by decide, hA, fun σ hI => l_helper (c_helper hA hI hp), fun σ hI => QM_PM (k_helper hA hI hp) (fun _ => rfl)⟩
  · skip
    exact ⟨1, a, 0, by decide, hA, fun σ hI => l_helper_0 hI (x_helper_P hA hI hx), fun σ hI => QM_PM (y_helper_P hA hI hx) (fun z => absurd z (by decide))⟩
theorem op_tooMuch {sc : SC} {a : AB} (hA : AV a) (x : Int32) : ∃ (c : Nat) (a' : AB) (v : Int32), c ≤ 3 ∧ AV a' ∧ (∀ σ, CI9 σ a → Cs (true, true) sc mL_tooMuch 1 6 [.ref 0, .int x, .ref 76] σ (PC σ c a' (v.toInt64))) ∧ (∀ σ, MI9 σ a → Cs (true, true) sc mX10_tooMuch 0 0 [.ref 53, .int x] σ (PM σ c a' v)) := by
  have hV := hA.1
  have hC := vC hV
  have hL := hA.2.2.2.2.1.1
  rcases i_in (m := aD a 0 0) (by omega) x with ⟨p, hp, rfl⟩ | hx
  · skip
    exact ⟨0, a, oI (tm (aD a) p), by decide, hA, fun σ hI => l_tooMuch (c_tooMuch hA hI hp), fun σ hI => QM_PM (k_tooMuch hA hI hp) (fun _ => rfl)⟩
  · skip
    exact ⟨1, a, 0, by decide, hA, fun σ hI => l_tooMuch_0 hI (x_tooMuch_P hA hI hx), fun σ hI => QM_PM (y_tooMuch_P hA hI hx) (fun z => absurd z (by decide))⟩
theorem op_parse {sc : SC} {a : AB} (hA : AV a) (x : Int32) : ∃ (c : Nat) (a' : AB) (v : Int32), c ≤ 3 ∧ AV a' ∧ (∀ σ, CI9 σ a → Cs (true, true) sc mL_parse 1 6 [.ref 0, .int x, .ref 76] σ (PC σ c a' (v.toInt64))) ∧ (∀ σ, MI9 σ a → Cs (true, true) sc mX10_parse 0 0 [.ref 53, .int x] σ (PM σ c a' v)) := by
  have hV := hA.1
  have hC := vC hV
  have hL := hA.2.2.2.2.1.1
  rcases i_in (m := aL a + 1) (by omega) x with ⟨p, hp, rfl⟩ | hx
  · skip
    exact ⟨0, paA a p, nI (pa (p, aT a)).1, by decide, paA_ok hA (by omega), fun σ hI => l_parse (c_parse hA hI (by omega)), fun σ hI => QM_PM (k_parse hA hI (by omega)) (fun _ => rfl)⟩
  · skip
    exact ⟨1, a, 0, by decide, hA, fun σ hI => l_parse_1 hI (x_parse hA hI hx), fun σ hI => QM_PM (y_parse hA hI hx) (fun z => absurd z (by decide))⟩
theorem op_factor {sc : SC} {a : AB} (hA : AV a) (x : Int32) : ∃ (c : Nat) (a' : AB) (v : Int32), c ≤ 3 ∧ AV a' ∧ (∀ σ, CI9 σ a → Cs (true, true) sc mL_factor 1 6 [.ref 0, .int x, .ref 76] σ (PC σ c a' (v.toInt64))) ∧ (∀ σ, MI9 σ a → Cs (true, true) sc mX10_factor 0 0 [.ref 53, .int x] σ (PM σ c a' v)) := by
  have hV := hA.1
  have hC := vC hV
  have hL := hA.2.2.2.2.1.1
  rcases i_rg (l := 0) (m := 120) (by decide) (by decide) x with ⟨p, hp0, hp, rfl⟩ | hx
  · skip
    exact ⟨0, a, nI (fa p), by decide, hA, fun σ hI => l_factor (PI_CF hI (c_factor hp)), fun σ hI => QM_PM (k_factor hA hI hp) (fun _ => rfl)⟩
  · skip
    exact ⟨1, a, 0, by decide, hA, fun σ hI => l_factor_1 hI (x_factor hx), fun σ hI => QM_PM (y_factor hI hx) (fun z => absurd z (by decide))⟩
theorem op_person {sc : SC} {a : AB} (hA : AV a) (x y : Int32) : ∃ (c : Nat) (a' : AB) (v : Int32), c ≤ 3 ∧ AV a' ∧ (∀ σ, CI9 σ a → Cs (true, true) sc mL_person 1 6 [.ref 0, .int x, .int y, .ref 76] σ (PC σ c a' (v.toInt64))) ∧ (∀ σ, MI9 σ a → Cs (true, true) sc mX10_person 0 0 [.ref 53, .int x, .int y] σ (PM σ c a' v)) := by
  have hV := hA.1
  have hC := vC hV
  have hL := hA.2.2.2.2.1.1
  rcases i_in (m := aD a 0 0) (by omega) x with ⟨p, hp, rfl⟩ | hx
  · rcases i_in (m := 6) (by omega) y with ⟨k, hk, rfl⟩ | hy
    · skip
      exact ⟨0, a, pev (aD a) p k, by decide, hA, fun σ hI => l_person (PI_CF hI (c_person hA hI hp (by omega))), fun σ hI => QM_PM (k_person hA hI hp (by omega)) (fun _ => rfl)⟩
    · skip
      exact ⟨2, a, 0, by decide, hA, fun σ hI => l_person_1 hI (x_person_W hA hI hp hy), fun σ hI => QM_PM (y_person_W hA hI hp hy) (fun z => absurd z (by decide))⟩
  · skip
    exact ⟨1, a, 0, by decide, hA, fun σ hI => l_person_0 hI (x_person_P hA hI hx), fun σ hI => QM_PM (y_person_P hA hI hx) (fun z => absurd z (by decide))⟩
theorem op_asset {sc : SC} {a : AB} (hA : AV a) (x y : Int32) : ∃ (c : Nat) (a' : AB) (v : Int32), c ≤ 3 ∧ AV a' ∧ (∀ σ, CI9 σ a → Cs (true, true) sc mL_asset 1 6 [.ref 0, .int x, .int y, .ref 76] σ (PC σ c a' (v.toInt64))) ∧ (∀ σ, MI9 σ a → Cs (true, true) sc mX10_asset 0 0 [.ref 53, .int x, .int y] σ (PM σ c a' v)) := by
  have hV := hA.1
  have hC := vC hV
  have hL := hA.2.2.2.2.1.1
  rcases i_in (m := aD a 0 1) (by omega) x with ⟨p, hp, rfl⟩ | hx
  · rcases i_in (m := 2) (by omega) y with ⟨k, hk, rfl⟩ | hy
    · skip
      exact ⟨0, a, asv (aD a) p k, by decide, hA, fun σ hI => l_asset (PI_CF hI (c_asset hA hI hp (by omega))), fun σ hI => QM_PM (k_asset hA hI hp (by omega)) (fun _ => rfl)⟩
    · skip
      exact ⟨2, a, 0, by decide, hA, fun σ hI => l_asset_1 hI (x_asset_W hA hI hp hy), fun σ hI => QM_PM (y_asset_W hA hI hp hy) (fun z => absurd z (by decide))⟩
  · skip
    exact ⟨1, a, 0, by decide, hA, fun σ hI => l_asset_0 hI (x_asset_P hA hI hx), fun σ hI => QM_PM (y_asset_P hA hI hx) (fun z => absurd z (by decide))⟩
theorem op_debt {sc : SC} {a : AB} (hA : AV a) (x y : Int32) : ∃ (c : Nat) (a' : AB) (v : Int32), c ≤ 3 ∧ AV a' ∧ (∀ σ, CI9 σ a → Cs (true, true) sc mL_debt 1 6 [.ref 0, .int x, .int y, .ref 76] σ (PC σ c a' (v.toInt64))) ∧ (∀ σ, MI9 σ a → Cs (true, true) sc mX10_debt 0 0 [.ref 53, .int x, .int y] σ (PM σ c a' v)) := by
  have hV := hA.1
  have hC := vC hV
  have hL := hA.2.2.2.2.1.1
  rcases i_in (m := aD a 0 2) (by omega) x with ⟨p, hp, rfl⟩ | hx
  · rcases i_in (m := 3) (by omega) y with ⟨k, hk, rfl⟩ | hy
    · skip
      exact ⟨0, a, dbv (aD a) p k, by decide, hA, fun σ hI => l_debt (PI_CF hI (c_debt hA hI hp (by omega))), fun σ hI => QM_PM (k_debt hA hI hp (by omega)) (fun _ => rfl)⟩
    · skip
      exact ⟨2, a, 0, by decide, hA, fun σ hI => l_debt_1 hI (x_debt_W hA hI hp hy), fun σ hI => QM_PM (y_debt_W hA hI hp hy) (fun z => absurd z (by decide))⟩
  · skip
    exact ⟨1, a, 0, by decide, hA, fun σ hI => l_debt_0 hI (x_debt_P hA hI hx), fun σ hI => QM_PM (y_debt_P hA hI hx) (fun z => absurd z (by decide))⟩
theorem op_legacy {sc : SC} {a : AB} (hA : AV a) (x y : Int32) : ∃ (c : Nat) (a' : AB) (v : Int32), c ≤ 3 ∧ AV a' ∧ (∀ σ, CI9 σ a → Cs (true, true) sc mL_legacy 1 6 [.ref 0, .int x, .int y, .ref 76] σ (PC σ c a' (v.toInt64))) ∧ (∀ σ, MI9 σ a → Cs (true, true) sc mX10_legacy 0 0 [.ref 53, .int x, .int y] σ (PM σ c a' v)) := by
  have hV := hA.1
  have hC := vC hV
  have hL := hA.2.2.2.2.1.1
  rcases i_in (m := aD a 0 4) (by omega) x with ⟨p, hp, rfl⟩ | hx
  · rcases i_in (m := 4) (by omega) y with ⟨k, hk, rfl⟩ | hy
    · skip
      exact ⟨0, a, lgv (aD a) p k, by decide, hA, fun σ hI => l_legacy (PI_CF hI (c_legacy hA hI hp (by omega))), fun σ hI => QM_PM (k_legacy hA hI hp (by omega)) (fun _ => rfl)⟩
    · skip
      exact ⟨2, a, 0, by decide, hA, fun σ hI => l_legacy_1 hI (x_legacy_W hA hI hp hy), fun σ hI => QM_PM (y_legacy_W hA hI hp hy) (fun z => absurd z (by decide))⟩
  · skip
    exact ⟨1, a, 0, by decide, hA, fun σ hI => l_legacy_0 hI (x_legacy_P hA hI hx), fun σ hI => QM_PM (y_legacy_P hA hI hx) (fun z => absurd z (by decide))⟩
theorem op_step {sc : SC} {a : AB} (hA : AV a) (x y : Int32) : ∃ (c : Nat) (a' : AB) (v : Int32), c ≤ 3 ∧ AV a' ∧ (∀ σ, CI9 σ a → Cs (true, true) sc mL_step 1 6 [.ref 0, .int x, .int y, .ref 76] σ (PC σ c a' (v.toInt64))) ∧ (∀ σ, MI9 σ a → Cs (true, true) sc mX10_step 0 0 [.ref 53, .int x, .int y] σ (PM σ c a' v)) := by
  have hV := hA.1
  have hC := vC hV
  have hL := hA.2.2.2.2.1.1
  rcases i_in (m := aD a 0 0) (by omega) x with ⟨p, hp, rfl⟩ | hx
  · rcases i_in (m := 7) (by omega) y with ⟨k, hk, rfl⟩ | hy
    · skip
      exact ⟨0, a, stw (aD a) p k, by decide, hA, fun σ hI => l_step (PI_CF hI (c_step hA hI hp (by omega))), fun σ hI => QM_PM (k_step hA hI hp (by omega)) (fun _ => rfl)⟩
    · skip
      exact ⟨2, a, 0, by decide, hA, fun σ hI => l_step_1 hI (x_step_W hA hI hp hy), fun σ hI => QM_PM (y_step_W hA hI hp hy) (fun z => absurd z (by decide))⟩
  · skip
    exact ⟨1, a, 0, by decide, hA, fun σ hI => l_step_0 hI (x_step_P hA hI hx), fun σ hI => QM_PM (y_step_P hA hI hx) (fun z => absurd z (by decide))⟩
theorem op_givenIf {sc : SC} {a : AB} (hA : AV a) (x y : Int32) : ∃ (c : Nat) (a' : AB) (v : Int32), c ≤ 3 ∧ AV a' ∧ (∀ σ, CI9 σ a → Cs (true, true) sc mL_givenIf 1 6 [.ref 0, .int x, .int y, .ref 76] σ (PC σ c a' (v.toInt64))) ∧ (∀ σ, MI9 σ a → Cs (true, true) sc mX10_givenIf 0 0 [.ref 53, .int x, .int y] σ (PM σ c a' v)) := by
  have hV := hA.1
  have hC := vC hV
  have hL := hA.2.2.2.2.1.1
  rcases i_in (m := aD a 0 0) (by omega) x with ⟨p, hp, rfl⟩ | hx
  · rcases i_in (m := aD a 0 0) (by omega) y with ⟨k, hk, rfl⟩ | hy
    · skip
      exact ⟨0, a, gv (up (aD a) 4 k 1) p, by decide, hA, fun σ hI => l_givenIf (c_givenIf hA hI hp hk), fun σ hI => QM_PM (k_givenIf hA hI hp hk) (fun _ => rfl)⟩
    · skip
      exact ⟨1, a, 0, by decide, hA, fun σ hI => l_givenIf_0 hI (x_givenIf_Q hA hI hp hy), fun σ hI => QM_PM (y_givenIf_Q hA hI hp hy) (fun z => absurd z (by decide))⟩
  · skip
    exact ⟨1, a, 0, by decide, hA, fun σ hI => l_givenIf_0 hI (x_givenIf_P hA hI hx), fun σ hI => QM_PM (y_givenIf_P hA hI hx) (fun z => absurd z (by decide))⟩
theorem op_die {sc : SC} {a : AB} (hA : AV a) (x : Int32) : ∃ (c : Nat) (a' : AB) (v : Int32), c ≤ 3 ∧ AV a' ∧ (∀ σ, CI9 σ a → Cs (true, true) sc mL_die 1 6 [.ref 0, .int x, .ref 76] σ (PC σ c a' (v.toInt64))) ∧ (∀ σ, MI9 σ a → Cs (true, true) sc mX10_die 0 0 [.ref 53, .int x] σ (PM σ c a' v)) := by
  have hV := hA.1
  have hC := vC hV
  have hL := hA.2.2.2.2.1.1
  rcases i_in (m := aD a 0 0) (by omega) x with ⟨q, hq, rfl⟩ | hx
  · skip
    have hV2 : Vd (up (aD a) 3 q 1) := Vdup hV rfl ⟨fun z => absurd z (by decide), fun _ => Nat.le_refl 1, fun z => absurd z (by decide), fun z => absurd z (by decide), fun z => absurd z (by decide), fun z => absurd z (by decide), fun z => absurd z (by decide), fun z => absurd z (by decide), fun z => absurd z (by decide)⟩
    have hSm : Sm (aD a) (up (aD a) 3 q 1) := Smup rfl
    exact ⟨0, nx a (up (aD a) 3 q 1), nI (mk (he (up (aD a) 3 q 1)) 12), by decide, pu_ok hA hV2 hSm, fun σ hI => l_die (c_die hA hI hq), fun σ hI => QM_PM (k_die hA hI hq) (fun _ => rfl)⟩
  · skip
    exact ⟨1, a, 0, by decide, hA, fun σ hI => l_die_0 hI (x_die_P hA hI hx), fun σ hI => QM_PM (y_die_P hA hI hx) (fun z => absurd z (by decide))⟩
theorem op_refuse {sc : SC} {a : AB} (hA : AV a) (x : Int32) (b : Bool) : ∃ (c : Nat) (a' : AB) (v : Int32), c ≤ 3 ∧ AV a' ∧ (∀ σ, CI9 σ a → Cs (true, true) sc mL_refuse 1 6 [.ref 0, .int x, .int (nI (tb b)), .ref 76] σ (PC σ c a' (bJ v))) ∧ (∀ σ, MI9 σ a → Cs (true, true) sc mX10_refuse 0 0 [.ref 53, .int x, .int (nI (tb b))] σ (PM σ c a' v)) := by
  have hV := hA.1
  have hC := vC hV
  have hL := hA.2.2.2.2.1.1
  rcases i_in (m := aD a 0 0) (by omega) x with ⟨q, hq, rfl⟩ | hx
  · skip
    have hV2 : Vd (up (aD a) 4 q (tb b)) := Vdup hV rfl ⟨fun z => absurd z (by decide), fun z => absurd z (by decide), fun _ => by have := tb_le b; omega, fun z => absurd z (by decide), fun z => absurd z (by decide), fun z => absurd z (by decide), fun z => absurd z (by decide), fun z => absurd z (by decide), fun z => absurd z (by decide)⟩
    have hSm : Sm (aD a) (up (aD a) 4 q (tb b)) := Smup rfl
    exact ⟨0, nx a (up (aD a) 4 q (tb b)), nI (aD a 4 q), by decide, pu_ok hA hV2 hSm, fun σ hI => l_refuse (c_refuse hA hI hq), fun σ hI => QM_PM (k_refuse hA hI hq) (fun _ => rfl)⟩
  · skip
    exact ⟨1, a, 0, by decide, hA, fun σ hI => l_refuse_0 hI (x_refuse_P hA hI hx), fun σ hI => QM_PM (y_refuse_P hA hI hx) (fun z => absurd z (by decide))⟩
theorem op_setAge {sc : SC} {a : AB} (hA : AV a) (x y : Int32) : ∃ (c : Nat) (a' : AB) (v : Int32), c ≤ 3 ∧ AV a' ∧ (∀ σ, CI9 σ a → Cs (true, true) sc mL_setAge 1 6 [.ref 0, .int x, .int y, .ref 76] σ (PC σ c a' (v.toInt64))) ∧ (∀ σ, MI9 σ a → Cs (true, true) sc mX10_setAge 0 0 [.ref 53, .int x, .int y] σ (PM σ c a' v)) := by
  have hV := hA.1
  have hC := vC hV
  have hL := hA.2.2.2.2.1.1
  rcases i_in (m := aD a 0 0) (by omega) x with ⟨q, hq, rfl⟩ | hx
  · rcases i_rg (l := 0) (m := 120) (by decide) (by decide) y with ⟨k, hk0, hk, rfl⟩ | hy
    · have hv := hk
      have hV2 : Vd (up (aD a) 2 q k) := Vdup hV rfl ⟨fun _ => hv, fun z => absurd z (by decide), fun z => absurd z (by decide), fun z => absurd z (by decide), fun z => absurd z (by decide), fun z => absurd z (by decide), fun z => absurd z (by decide), fun z => absurd z (by decide), fun z => absurd z (by decide)⟩
      have hSm : Sm (aD a) (up (aD a) 2 q k) := Smup rfl
      exact ⟨0, nx a (up (aD a) 2 q k), nI (aD a 2 q), by decide, pu_ok hA hV2 hSm, fun σ hI => l_setAge (c_setAge hA hI hq hk), fun σ hI => QM_PM (k_setAge hA hI hq hk) (fun _ => rfl)⟩
    · skip
      exact ⟨2, a, 0, by decide, hA, fun σ hI => l_setAge_1 hI (x_setAge_W hA hI hq hy), fun σ hI => QM_PM (y_setAge_W hA hI hq hy) (fun z => absurd z (by decide))⟩
  · skip
    exact ⟨1, a, 0, by decide, hA, fun σ hI => l_setAge_0 hI (x_setAge_P hA hI hx), fun σ hI => QM_PM (y_setAge_P hA hI hx) (fun z => absurd z (by decide))⟩
theorem op_setValue {sc : SC} {a : AB} (hA : AV a) (x y : Int32) : ∃ (c : Nat) (a' : AB) (v : Int32), c ≤ 3 ∧ AV a' ∧ (∀ σ, CI9 σ a → Cs (true, true) sc mL_setValue 1 6 [.ref 0, .int x, .int y, .ref 76] σ (PC σ c a' (v.toInt64))) ∧ (∀ σ, MI9 σ a → Cs (true, true) sc mX10_setValue 0 0 [.ref 53, .int x, .int y] σ (PM σ c a' v)) := by
  have hV := hA.1
  have hC := vC hV
  have hL := hA.2.2.2.2.1.1
  rcases i_in (m := aD a 0 1) (by omega) x with ⟨q, hq, rfl⟩ | hx
  · rcases i_rg (l := 0) (m := 9999999) (by decide) (by decide) y with ⟨k, hk0, hk, rfl⟩ | hy
    · have hv := hk
      have hV2 : Vd (up (aD a) 5 q k) := Vdup hV rfl ⟨fun z => absurd z (by decide), fun z => absurd z (by decide), fun z => absurd z (by decide), fun _ => hv, fun z => absurd z (by decide), fun z => absurd z (by decide), fun z => absurd z (by decide), fun z => absurd z (by decide), fun z => absurd z (by decide)⟩
      have hSm : Sm (aD a) (up (aD a) 5 q k) := Smup rfl
      exact ⟨0, nx a (up (aD a) 5 q k), nI (nts (up (aD a) 5 q k)), by decide, pu_ok hA hV2 hSm, fun σ hI => l_setValue (c_setValue hA hI hq hk), fun σ hI => QM_PM (k_setValue hA hI hq hk) (fun _ => rfl)⟩
    · skip
      exact ⟨2, a, 0, by decide, hA, fun σ hI => l_setValue_1 hI (x_setValue_W hA hI hq hy), fun σ hI => QM_PM (y_setValue_W hA hI hq hy) (fun z => absurd z (by decide))⟩
  · skip
    exact ⟨1, a, 0, by decide, hA, fun σ hI => l_setValue_0 hI (x_setValue_P hA hI hx), fun σ hI => QM_PM (y_setValue_P hA hI hx) (fun z => absurd z (by decide))⟩
theorem op_addGift {sc : SC} {a : AB} (hA : AV a) (x y : Int32) : ∃ (c : Nat) (a' : AB) (v : Int32), c ≤ 3 ∧ AV a' ∧ (∀ σ, CI9 σ a → Cs (true, true) sc mL_addGift 1 6 [.ref 0, .int x, .int y, .ref 76] σ (PC σ c a' (v.toInt64))) ∧ (∀ σ, MI9 σ a → Cs (true, true) sc mX10_addGift 0 0 [.ref 53, .int x, .int y] σ (PM σ c a' v)) := by
  have hV := hA.1
  have hC := vC hV
  have hL := hA.2.2.2.2.1.1
  rcases i_in (m := aD a 0 0) (by omega) x with ⟨q, hq, rfl⟩ | hx
  · rcases i_rg (l := 0) (m := 9999999) (by decide) (by decide) y with ⟨k, hk0, hk, rfl⟩ | hy
    · have hv := hk
      by_cases hg : aD a 0 3 < 8
      · skip
        have hV2 : Vd (up (up (up (aD a) 9 (aD a 0 3) q) 10 (aD a 0 3) k) 0 3 (aD a 0 3 + 1)) := Vdup (Vdup (Vdup hV rfl ⟨fun z => absurd z (by decide), fun z => absurd z (by decide), fun z => absurd z (by decide), fun z => absurd z (by decide), fun z => absurd z (by decide), fun z => absurd z (by decide), fun _ => by omega, fun z => absurd z (by decide), fun z => absurd z (by decide)⟩) rfl ⟨fun z => absurd z (by decide), fun z => absurd z (by decide), fun z => absurd z (by decide), fun z => absurd z (by decide), fun z => absurd z (by decide), fun z => absurd z (by decide), fun z => absurd z (by decide), fun _ => hv, fun z => absurd z (by decide)⟩) rfl ⟨fun z => absurd z (by decide), fun z => absurd z (by decide), fun z => absurd z (by decide), fun z => absurd z (by decide), fun z => absurd z (by decide), fun z => absurd z (by decide), fun z => absurd z (by decide), fun z => absurd z (by decide), fun _ => ⟨by omega, by omega, by omega⟩⟩
        have hSm : Sm (aD a) (up (up (up (aD a) 9 (aD a 0 3) q) 10 (aD a 0 3) k) 0 3 (aD a 0 3 + 1)) := (Smup rfl).tr ((Smup rfl).tr (Smup rfl))
        exact ⟨0, nx a (up (up (up (aD a) 9 (aD a 0 3) q) 10 (aD a 0 3) k) 0 3 (aD a 0 3 + 1)), (if he (up (up (up (aD a) 9 (aD a 0 3) q) 10 (aD a 0 3) k) 0 3 (aD a 0 3 + 1)) q = true then sv (up (up (up (aD a) 9 (aD a 0 3) q) 10 (aD a 0 3) k) 0 3 (aD a 0 3 + 1)) q else -1), by decide, pu_ok hA hV2 hSm, fun σ hI => l_addGift (c_addGift hA hI hq hk hg), fun σ hI => QM_PM (k_addGift hA hI hq hk hg) (fun _ => rfl)⟩
      · skip
        exact ⟨3, a, 0, by decide, hA, fun σ hI => l_addGift_2 hI (x_addGift_F hA hI hq hk (by omega)), fun σ hI => QM_PM (y_addGift_F hA hI hq hk (by omega)) (fun z => absurd z (by decide))⟩
    · skip
      exact ⟨2, a, 0, by decide, hA, fun σ hI => l_addGift_1 hI (x_addGift_W hA hI hq hy), fun σ hI => QM_PM (y_addGift_W hA hI hq hy) (fun z => absurd z (by decide))⟩
  · skip
    exact ⟨1, a, 0, by decide, hA, fun σ hI => l_addGift_0 hI (x_addGift_P hA hI hx), fun σ hI => QM_PM (y_addGift_P hA hI hx) (fun z => absurd z (by decide))⟩
theorem op_addDebt {sc : SC} {a : AB} (hA : AV a) (x y : Int32) : ∃ (c : Nat) (a' : AB) (v : Int32), c ≤ 3 ∧ AV a' ∧ (∀ σ, CI9 σ a → Cs (true, true) sc mL_addDebt 1 6 [.ref 0, .int x, .int y, .ref 76] σ (PC σ c a' (v.toInt64))) ∧ (∀ σ, MI9 σ a → Cs (true, true) sc mX10_addDebt 0 0 [.ref 53, .int x, .int y] σ (PM σ c a' v)) := by
  have hV := hA.1
  have hC := vC hV
  have hL := hA.2.2.2.2.1.1
  rcases i_rg (l := 1) (m := 5) (by decide) (by decide) x with ⟨q, hq0, hq, rfl⟩ | hx
  · rcases i_rg (l := 0) (m := 9999999) (by decide) (by decide) y with ⟨k, hk0, hk, rfl⟩ | hy
    · have hv := hk
      by_cases hg : aD a 0 2 < 8
      · skip
        have hrk : ∀ k, k < aD a 0 2 + 1 → 1 ≤ up (up (aD a) 7 (aD a 0 2) q) 8 (aD a 0 2) k 7 k := by
          intro k hk
          rw [up_n1 _ _ (by decide)]
          by_cases z : k = aD a 0 2
          · rw [z, up_s]; exact hq0
          · rw [up_n2 _ _ z]; exact vR hV k (by omega)
        have hV2 : Vd (up (up (up (aD a) 7 (aD a 0 2) q) 8 (aD a 0 2) k) 0 2 (aD a 0 2 + 1)) := Vdup (Vdup (Vdup hV rfl ⟨fun z => absurd z (by decide), fun z => absurd z (by decide), fun z => absurd z (by decide), fun z => absurd z (by decide), fun _ => ⟨hq0, hq⟩, fun z => absurd z (by decide), fun z => absurd z (by decide), fun z => absurd z (by decide), fun z => absurd z (by decide)⟩) rfl ⟨fun z => absurd z (by decide), fun z => absurd z (by decide), fun z => absurd z (by decide), fun z => absurd z (by decide), fun z => absurd z (by decide), fun _ => hv, fun z => absurd z (by decide), fun z => absurd z (by decide), fun z => absurd z (by decide)⟩) rfl ⟨fun z => absurd z (by decide), fun z => absurd z (by decide), fun z => absurd z (by decide), fun z => absurd z (by decide), fun z => absurd z (by decide), fun z => absurd z (by decide), fun z => absurd z (by decide), fun z => absurd z (by decide), fun _ => ⟨by omega, by omega, fun _ => ⟨by omega, hrk⟩⟩⟩
        have hSm : Sm (aD a) (up (up (up (aD a) 7 (aD a 0 2) q) 8 (aD a 0 2) k) 0 2 (aD a 0 2 + 1)) := (Smup rfl).tr ((Smup rfl).tr (Smup rfl))
        exact ⟨0, nx a (up (up (up (aD a) 7 (aD a 0 2) q) 8 (aD a 0 2) k) 0 2 (aD a 0 2 + 1)), nI (pd (up (up (up (aD a) 7 (aD a 0 2) q) 8 (aD a 0 2) k) 0 2 (aD a 0 2 + 1)) (aD a 0 2)), by decide, pu_ok hA hV2 hSm, fun σ hI => l_addDebt (c_addDebt hA hI hq0 hq hk hg), fun σ hI => QM_PM (k_addDebt hA hI hq0 hq hk hg) (fun _ => rfl)⟩
      · skip
        exact ⟨2, a, 0, by decide, hA, fun σ hI => l_addDebt_2 hI (x_addDebt_F hA hI hq0 hq hk (by omega)), fun σ hI => QM_PM (y_addDebt_F hA hI hq0 hq hk (by omega)) (fun z => absurd z (by decide))⟩
    · skip
      exact ⟨1, a, 0, by decide, hA, fun σ hI => l_addDebt_1 hI (x_addDebt_W hq0 hq hy), fun σ hI => QM_PM (y_addDebt_W hI hq0 hq hy) (fun z => absurd z (by decide))⟩
  · skip
    exact ⟨1, a, 0, by decide, hA, fun σ hI => l_addDebt_1 hI (x_addDebt_R hx), fun σ hI => QM_PM (y_addDebt_R hI hx) (fun z => absurd z (by decide))⟩
theorem op_saveSnapshot {sc : SC} {a : AB} (hA : AV a) (x : Int32) : ∃ (c : Nat) (a' : AB) (v : Int32), c ≤ 3 ∧ AV a' ∧ (∀ σ, CI9 σ a → Cs (true, true) sc mL_saveSnapshot 1 6 [.ref 0, .int x, .ref 76] σ (PC σ c a' (bJ v))) ∧ (∀ σ, MI9 σ a → Cs (true, true) sc mX10_saveSnapshot 0 0 [.ref 53, .int x] σ (PM σ c a' v)) := by
  have hV := hA.1
  have hC := vC hV
  have hL := hA.2.2.2.2.1.1
  rcases i_in (m := 2) (by omega) x with ⟨q, hq, rfl⟩ | hx
  · skip
    exact ⟨0, (aD a, a.2.1, (aup (bS a) q true, aup (bR a) q (aD a)), a.2.2.2), nI (tb (bS a q)), by decide, save_ok hA, fun σ hI => l_saveSnapshot (c_save hA hI hq), fun σ hI => QM_PM (k_save hA hI hq) (fun _ => rfl)⟩
  · skip
    exact ⟨1, a, 0, by decide, hA, fun σ hI => l_saveSnapshot_0 hI (x_saveSnapshot_P hx), fun σ hI => QM_PM (y_saveSnapshot_P hI hx) (fun z => absurd z (by decide))⟩
theorem op_restoreSnapshot {sc : SC} {a : AB} (hA : AV a) (x : Int32) : ∃ (c : Nat) (a' : AB) (v : Int32), c ≤ 3 ∧ AV a' ∧ (∀ σ, CI9 σ a → Cs (true, true) sc mL_restoreSnapshot 1 6 [.ref 0, .int x, .ref 76] σ (PC σ c a' (v.toInt64))) ∧ (∀ σ, MI9 σ a → Cs (true, true) sc mX10_restoreSnapshot 0 0 [.ref 53, .int x] σ (PM σ c a' v)) := by
  have hV := hA.1
  have hC := vC hV
  have hL := hA.2.2.2.2.1.1
  rcases i_in (m := 2) (by omega) x with ⟨q, hq, rfl⟩ | hx
  · rcases Bool.eq_false_or_eq_true (bS a q) with hb | hb
    · skip
      exact ⟨0, (bR a q, (0, aS a), a.2.2), nI (rs (bR a q)), by decide, restore_ok hA hq hb, fun σ hI => l_restoreSnapshot (c_restore hA hI hq hb), fun σ hI => QM_PM (k_restore hA hI hq hb) (fun _ => rfl)⟩
    · skip
      exact ⟨2, a, 0, by decide, hA, fun σ hI => l_restoreSnapshot_2 hI (x_restore_E hA hI hq hb), fun σ hI => QM_PM (y_restore_E hA hI hq hb) (fun z => absurd z (by decide))⟩
  · skip
    exact ⟨1, a, 0, by decide, hA, fun σ hI => l_restoreSnapshot_0 hI (x_restoreSnapshot_P hx), fun σ hI => QM_PM (y_restoreSnapshot_P hI hx) (fun z => absurd z (by decide))⟩
