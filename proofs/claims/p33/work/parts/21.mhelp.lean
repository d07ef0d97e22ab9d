/-- how many children -/
def ch (d : D) (q : Nat) : Nat := sm (fun k => tb (d 1 k == q + 1)) (d 0 0)
theorem pnI {q : Nat} (h : q < 900) : ¬ nI q = -1 := by
  rw [← oI_s]
  exact oI_ne h
theorem fb1 {a : Nat} (ha : a ≤ 120) (h : ¬ nI 100 - nI (a / 10 * 10) ≤ nI 90) : nI 90 = nI (fa a) := (by decide +kernel : ∀ a, a < 121 → ¬ nI 100 - nI (a / 10 * 10) ≤ nI 90 → nI 90 = nI (fa a)) a (by omega) h
theorem fb2 {a : Nat} (ha : a ≤ 120) (h : ¬ nI 10 ≤ nI 100 - nI (a / 10 * 10)) : nI 10 = nI (fa a) := (by decide +kernel : ∀ a, a < 121 → ¬ nI 10 ≤ nI 100 - nI (a / 10 * 10) → nI 10 = nI (fa a)) a (by omega) h
theorem fb3 {a : Nat} (ha : a ≤ 120) (h : nI 100 - nI (a / 10 * 10) ≤ nI 90) (h2 : nI 10 ≤ nI 100 - nI (a / 10 * 10)) : nI 100 - nI (a / 10 * 10) = nI (fa a) := (by decide +kernel : ∀ a, a < 121 → nI 100 - nI (a / 10 * 10) ≤ nI 90 → nI 10 ≤ nI 100 - nI (a / 10 * 10) → nI 100 - nI (a / 10 * 10) = nI (fa a)) a (by omega) h h2
