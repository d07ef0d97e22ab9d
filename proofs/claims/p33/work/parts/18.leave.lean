/-! Leaving out of account. -/
theorem ws_sp (o : Nat → Nat) : ∀ m, (∀ i, i < m → o i ≤ (ws o m).2) ∧ ((ws o m).1 = 0 → (ws o m).2 = 0) ∧ (∀ j, (ws o m).1 = j + 1 → j < m ∧ (ws o m).2 = o j ∧ 0 < o j)
  | 0 => ⟨fun i hi => absurd hi (Nat.not_lt_zero _), fun _ => rfl, fun j h => by exact absurd h (by show ¬ (0 : Nat) = j + 1; omega)⟩
  | m + 1 => by
    have ih := ws_sp o m
    show (∀ i, i < m + 1 → o i ≤ (if (ws o m).2 < o m then (m + 1, o m) else ws o m).2) ∧ ((if (ws o m).2 < o m then (m + 1, o m) else ws o m).1 = 0 → (if (ws o m).2 < o m then (m + 1, o m) else ws o m).2 = 0) ∧ (∀ j, (if (ws o m).2 < o m then (m + 1, o m) else ws o m).1 = j + 1 → j < m + 1 ∧ (if (ws o m).2 < o m then (m + 1, o m) else ws o m).2 = o j ∧ 0 < o j)
    by_cases h : (ws o m).2 < o m
    · rw [if_pos h]
      refine ⟨fun i hi => ?_, fun q => absurd q (Nat.succ_ne_zero m), fun j q => ?_⟩
      · show o i ≤ o m
        by_cases e : i = m
        · rw [e]; exact Nat.le_refl _
        · have := ih.1 i (by omega)
          omega
      · have e : m = j := Nat.succ.inj q
        subst e
        exact ⟨Nat.lt_succ_self _, rfl, by omega⟩
    · rw [if_neg h]
      refine ⟨fun i hi => ?_, ih.2.1, fun j q => ?_⟩
      · by_cases e : i = m
        · rw [e]; omega
        · exact ih.1 i (by omega)
      · have := ih.2.2 j q
        exact ⟨by omega, this.2⟩
theorem ws_no {o : Nat → Nat} {m : Nat} (h : (ws o m).1 = 0) : ∀ i, i < m → o i = 0 := by
  intro i hi
  have h1 := (ws_sp o m).1 i hi
  rw [(ws_sp o m).2.1 h] at h1
  omega
theorem ws_le (o : Nat → Nat) (m : Nat) : (ws o m).1 ≤ m := by
  cases h : (ws o m).1 with
  | zero => omega
  | succ j => have := ((ws_sp o m).2.2 j h).1; omega
theorem ov_w {F : Nat} {G w : Nat → Nat} {p : Nat} (h : 0 < ov F G w p) : 0 < w p := by
  unfold ov at h
  by_cases q : 0 < w p
  · exact q
  · rw [if_neg q] at h; omega
theorem ls_fix {F : Nat} {G w : Nat → Nat} (h : (ws (ov F G w) 12).1 = 0) : ls F G w = w := if_pos h
theorem ls_st {F : Nat} {G w : Nat → Nat} {j : Nat} (h : (ws (ov F G w) 12).1 = j + 1) : ls F G w = aup w j 0 := by
  unfold ls
  rw [h, if_neg (Nat.succ_ne_zero j), Nat.add_sub_cancel]
theorem lo_fix {F : Nat} {G w : Nat → Nat} {k : Nat} (h : (ws (ov F G (lo F G w k)) 12).1 = 0) : ∀ m, k ≤ m → lo F G w m = lo F G w k := by
  intro m hm
  induction m with
  | zero => rw [Nat.le_zero.mp hm]
  | succ m ih =>
    by_cases e : k = m + 1
    · rw [e]
    · show ls F G (lo F G w m) = _
      rw [ih (by omega), ls_fix h]
theorem lo_le (F : Nat) (G w : Nat → Nat) : ∀ k p, lo F G w k p = w p ∨ lo F G w k p = 0
  | 0, p => Or.inl rfl
  | k + 1, p => by
    show ls F G (lo F G w k) p = w p ∨ ls F G (lo F G w k) p = 0
    unfold ls
    split
    · exact lo_le F G w k p
    · by_cases e : p = (ws (ov F G (lo F G w k)) 12).1 - 1
      · rw [e, aup_s]; exact Or.inr rfl
      · rw [aup_n _ _ e]; exact lo_le F G w k p
theorem lo_lw {F : Nat} {G w : Nat → Nat} {k p : Nat} : lo F G w k p ≤ w p := by
  rcases lo_le F G w k p with h | h <;> omega
/-- how many are in account -/
def ct (w : Nat → Nat) : Nat := sm (fun p => tb (decide (0 < w p))) 12
theorem ct_z {w : Nat → Nat} {j : Nat} (hj : j < 12) (h : 0 < w j) : ct (aup w j 0) + 1 = ct w := by
  unfold ct
  have e : (fun p => tb (decide (0 < aup w j 0 p))) = aup (fun p => tb (decide (0 < w p))) j 0 := by
    funext p
    by_cases q : p = j
    · subst q; rw [aup_s, aup_s]; rfl
    · rw [aup_n _ _ q, aup_n _ _ q]
  rw [e]
  have h1 := sm_aup (f := fun p => tb (decide (0 < w p))) (x := 0) hj
  have h2 : tb (decide (0 < w j)) = 1 := by rw [decide_eq_true h]; rfl
  have h3 : sm (aup (fun p => tb (decide (0 < w p))) j 0) 12 + tb (decide (0 < w j)) = sm (fun p => tb (decide (0 < w p))) 12 + 0 := h1
  omega
theorem ct_le (w : Nat → Nat) : ct w ≤ 12 := by
  have h := sm_le (f := fun p => tb (decide (0 < w p))) (b := 1) (m := 12) (fun i _ => by have := tb_le (decide (0 < w i)); show tb _ ≤ 1; omega)
  exact h
theorem lo_ct {F : Nat} {G w : Nat → Nat} : ∀ k, (ws (ov F G (lo F G w k)) 12).1 = 0 ∨ ct (lo F G w k) + k ≤ 12
  | 0 => Or.inr (by have := ct_le w; show ct w + 0 ≤ 12; omega)
  | k + 1 => by
    rcases lo_ct (F := F) (G := G) (w := w) k with h | h
    · left
      have e : lo F G w (k + 1) = lo F G w k := ls_fix h
      rw [e]; exact h
    · cases q : (ws (ov F G (lo F G w k)) 12).1 with
      | zero =>
        left
        have e : lo F G w (k + 1) = lo F G w k := ls_fix q
        rw [e]; exact q
      | succ j =>
        right
        have h1 := (ws_sp (ov F G (lo F G w k)) 12).2.2 j q
        have e : lo F G w (k + 1) = aup (lo F G w k) j 0 := ls_st q
        rw [e]
        have := ct_z h1.1 (ov_w h1.2.2)
        omega
/-- at the end nobody has too much -/
theorem wf_fix (F : Nat) (G w : Nat → Nat) : (ws (ov F G (wf F G w)) 12).1 = 0 := by
  rcases lo_ct (F := F) (G := G) (w := w) 12 with h | h
  · exact h
  · cases q : (ws (ov F G (wf F G w)) 12).1 with
    | zero => rfl
    | succ j =>
      exfalso
      have h1 := (ws_sp (ov F G (wf F G w)) 12).2.2 j q
      have h2 := ov_w h1.2.2
      have h3 := sm_pos (f := fun p => tb (decide (0 < wf F G w p))) h1.1
      have h4 : tb (decide (0 < wf F G w j)) = 1 := by rw [decide_eq_true h2]; rfl
      have h5 : tb (decide (0 < wf F G w j)) ≤ ct (wf F G w) := h3
      have h6 : ct (wf F G w) + 12 ≤ 12 := h
      omega
theorem pt_le {F b : Nat} {G w : Nat → Nat} (hG : ∀ i, i < 12 → G i ≤ b) : pt F G w ≤ F + 12 * b := by
  unfold pt
  have := sm_le (f := fun p => if 0 < w p then G p else 0) (b := b) (m := 12) (fun i hi => by show (if _ then _ else _) ≤ b; have := hG i hi; split <;> omega)
  omega
theorem sm_w {b : Nat} {w : Nat → Nat} (hw : ∀ i, i < 12 → w i ≤ b) : sm w 12 ≤ 12 * b := sm_le hw
/-- a difference of two numbers, compared -/
theorem sub_lt {a b g : Nat} (ha : a < 2147483648) (hb : b < 2147483648) (hg : g < 2147483648) : nI g < nI a - nI b ↔ g < a - b := by
  by_cases h : b ≤ a
  · rw [nI_s h]
    exact nI_ltI hg (by omega)
  · constructor
    · intro q
      exfalso
      have h1 := Int32.lt_iff_toInt_lt.mp q
      rw [Int32.toInt_sub, nI_toInt ha, nI_toInt hb, nI_toInt hg, Int.bmod_eq_of_le] at h1
      · omega
      · omega
      · omega
    · omega
theorem mk_z {b : Nat → Bool} : ∀ {m : Nat}, mk b m = 0 ↔ ∀ i, i < m → b i = false := by
  intro m
  constructor
  · intro h i hi
    have h1 := mk_bit b m i
    rw [h, Nat.zero_testBit, decide_eq_true hi] at h1
    exact h1.symm
  · intro h
    rw [mk_cg h]
    exact mk_no m
theorem hm_z {d : D} (hV : Vd d) : mk (he d) 12 = 0 ↔ hm d = 0 := by
  rw [mk_z]
  constructor
  · intro h
    unfold hm
    exact sm_zero (fun i hi => by rw [h i (by have := vC hV; omega)]; rfl)
  · intro h i hi
    cases e : he d i with
    | false => rfl
    | true =>
      exfalso
      have h1 := sm_pos (f := fun p => tb (he d p)) (he_lt e)
      have h2 : tb (he d i) = 1 := by rw [e]; rfl
      have h3 : tb (he d i) ≤ hm d := h1
      omega
theorem rs_le {d : D} (hV : Vd d) : rs d ≤ 79999992 := by
  have h1 := lf_le d 5
  have h2 := nts_le hV (vC hV).2.1
  have h3 : sm (nt d) (d 0 1) = nts d := rfl
  unfold rs
  omega
theorem mul_div_le {a b c : Nat} (h : b ≤ c) : a * b / c ≤ a := by
  by_cases hc : c = 0
  · rw [hc, Nat.div_zero]; omega
  · exact Nat.div_le_of_le_mul (by rw [Nat.mul_comm c a]; exact Nat.mul_le_mul_left a h)
theorem a5_le {d : D} (hV : Vd d) : a5 d ≤ rs d := by
  unfold a5
  split
  · split
    · omega
    · exact mul_div_le (vC hV).2.2.2.2.2.2.1
  · omega
theorem a6_le {d : D} (hV : Vd d) : a6 d ≤ rs d - a5 d := by
  unfold a6
  split
  · exact mul_div_le (vC hV).2.2.2.2.2.2.2.2.2.1
  · omega
theorem fa_le (a : Nat) : fa a ≤ 90 := by unfold fa; omega
theorem a7_le {d : D} (hV : Vd d) : a7 d ≤ a6 d := by
  unfold a7
  exact mul_div_le (by have := fa_le (d 2 (d 0 5 - 1)); omega)
theorem a8_le {d : D} (hV : Vd d) : a8 d ≤ 79999992 := by
  have := rs_le hV
  unfold a8
  split <;> omega
theorem fa_i : ∀ a, a ≤ 120 → (if nI 10 < (if nI 100 - nI (a / 10 * 10) < nI 90 then nI 100 - nI (a / 10 * 10) else nI 90) then (if nI 100 - nI (a / 10 * 10) < nI 90 then nI 100 - nI (a / 10 * 10) else nI 90) else nI 10) = nI (fa a) := by
  intro a ha
  exact (by decide +kernel : ∀ a, a < 121 → (if nI 10 < (if nI 100 - nI (a / 10 * 10) < nI 90 then nI 100 - nI (a / 10 * 10) else nI 90) then (if nI 100 - nI (a / 10 * 10) < nI 90 then nI 100 - nI (a / 10 * 10) else nI 90) else nI 10) = nI (fa a)) a (by omega)
