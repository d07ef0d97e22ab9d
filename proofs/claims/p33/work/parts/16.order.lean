/-! Lines, divisors, weights: what the two programs need of them. -/
theorem oI_p (w : Nat) : oI w + nI 1 = nI w := by
  unfold oI
  have h : (nI 1 : Int32) = 1 := rfl
  rw [h]
  exact Int32.sub_add_cancel _ _
theorem oI_q {q s : Nat} (hq : q < 900) (hs : s < 900) : nI q = oI s ↔ s = q + 1 := by
  rw [← oI_s, oI_eq (by omega) (by omega)]
  omega
theorem oI_ne {w : Nat} (hw : w < 900) : ¬ oI (w + 1) = -1 := by
  rw [← oI_0, oI_eq (by omega) (by decide)]
  omega
theorem sm_aup {f : Nat → Nat} {q x : Nat} : ∀ {m : Nat}, q < m → sm (aup f q x) m + f q = sm f m + x
  | 0, h => absurd h (Nat.not_lt_zero _)
  | m + 1, h => by
    show sm (aup f q x) m + aup f q x m + f q = sm f m + f m + x
    by_cases e : q = m
    · subst e
      rw [aup_s, sm_cg (g := f) (fun i hi => aup_n _ _ (Nat.ne_of_lt hi))]
      omega
    · have := sm_aup (f := f) (q := q) (x := x) (m := m) (by omega)
      rw [aup_n _ _ (fun z => e z.symm)]
      omega
theorem lst_s {d : D} {q : Nat} (hq : q < d 0 0) : lst d (d 0 0 - q) = aup (lst d (d 0 0 - (q + 1))) q (lnF d (lst d (d 0 0 - (q + 1))) q) := by
  have e : d 0 0 - q = (d 0 0 - (q + 1)) + 1 := by omega
  rw [e]
  show aup (lst d (d 0 0 - (q + 1))) (d 0 0 - 1 - (d 0 0 - (q + 1))) (lnF d (lst d (d 0 0 - (q + 1))) (d 0 0 - 1 - (d 0 0 - (q + 1)))) = _
  have e2 : d 0 0 - 1 - (d 0 0 - (q + 1)) = q := by omega
  rw [e2]
theorem lst_lo (d : D) : ∀ j, j ≤ d 0 0 → ∀ k, k < d 0 0 - j → lst d j k = false
  | 0, _, _, _ => rfl
  | j + 1, hj, k, hk => by
    show aup (lst d j) (d 0 0 - 1 - j) _ k = false
    rw [aup_n _ _ (by omega)]
    exact lst_lo d j (by omega) k (by omega)
theorem lst_hi (d : D) : ∀ j, j ≤ d 0 0 → ∀ k, d 0 0 ≤ k → lst d j k = false
  | 0, _, _, _ => rfl
  | j + 1, hj, k, hk => by
    show aup (lst d j) (d 0 0 - 1 - j) _ k = false
    rw [aup_n _ _ (by omega)]
    exact lst_hi d j (by omega) k hk
/-- what is laid stays -/
theorem lst_st (d : D) {q : Nat} : ∀ j, j ≤ q → q ≤ d 0 0 → ∀ k, q ≤ k → lst d (d 0 0 - j) k = lst d (d 0 0 - q) k := by
  intro j
  induction hn : q - j generalizing j with
  | zero => intro h1 _ k _; rw [show j = q by omega]
  | succ t ih =>
    intro h1 h2 k hk
    rw [lst_s (by omega), aup_n _ _ (by omega)]
    exact ih (j + 1) (by omega) (by omega) h2 k hk
theorem lu_cg {d : D} {b c : Nat → Bool} {x : Nat} (h : ∀ k, k < d 0 0 → b k = c k) : lu d b x = lu d c x := by
  unfold lu
  exact sm_cg (fun k hk => by show tb (b k && _) = tb (c k && _); rw [h k hk])
theorem lu_up {d : D} {b : Nat → Bool} {q : Nat} (hq : q < d 0 0) (hb : b q = false) (x : Nat) : lu d (aup b q true) x = lu d b x + tb (d 1 q == x) := by
  unfold lu
  have e : (fun k => tb (aup b q true k && d 1 k == x)) = aup (fun k => tb (b k && d 1 k == x)) q (tb (d 1 q == x)) := by
    funext k
    by_cases h : k = q
    · subst h; rw [aup_s, aup_s]; rfl
    · rw [aup_n _ _ h, aup_n _ _ h]
  rw [e]
  have h1 := sm_aup (f := fun k => tb (b k && d 1 k == x)) (x := tb (d 1 q == x)) hq
  have h2 : tb (b q && d 1 q == x) = 0 := by
    rw [hb]; rfl
  rw [h2, Nat.add_zero] at h1
  exact h1
theorem lu_le {d : D} (b : Nat → Bool) (x : Nat) : lu d b x ≤ d 0 0 := by
  have h := sm_le (f := fun k => tb (b k && d 1 k == x)) (b := 1) (m := d 0 0) (fun i _ => by have := tb_le (b i && d 1 i == x); show tb _ ≤ 1; omega)
  rw [Nat.mul_one] at h
  exact h
theorem aup_self {α : Type} {f : Nat → α} {q : Nat} {x : α} (h : f q = x) : aup f q x = f := by
  funext k
  by_cases e : k = q
  · subst e; rw [aup_s, h]
  · rw [aup_n _ _ e]
theorem isL_lt {d : D} {p : Nat} (h : isL d p = true) : p < d 0 0 := by
  by_cases q : p < d 0 0
  · exact q
  · have := lst_hi d (d 0 0) (Nat.le_refl _) p (by omega)
    unfold isL at h
    rw [this] at h
    exact absurd h (by decide)
/-- the line of a person, by the lines at the end -/
theorem isL_eq {d : D} (hV : Vd d) {p : Nat} (hp : p < d 0 0) : isL d p = lnF d (isL d) p := by
  have h0 : isL d p = lst d (d 0 0 - p) p := by
    have := lst_st d (q := p) 0 (Nat.zero_le _) (by omega) p (Nat.le_refl _)
    rw [Nat.sub_zero] at this
    exact this
  rw [h0, lst_s hp, aup_s]
  unfold lnF
  have h1 : lu d (lst d (d 0 0 - (p + 1))) (p + 1) = lu d (isL d) (p + 1) := by
    unfold lu
    apply sm_cg
    intro k hk
    show tb (_ && _) = tb (_ && _)
    by_cases e : d 1 k = p + 1
    · have h2 := vQ hV k hk
      have h3 := lst_st d (q := p + 1) 0 (Nat.zero_le _) (by omega) k (by omega)
      rw [Nat.sub_zero] at h3
      show tb (lst d (d 0 0 - (p + 1)) k && _) = tb (lst d (d 0 0) k && _)
      rw [h3]
    · rw [beq_false_of_ne e, Bool.and_false, Bool.and_false]
  rw [h1]
theorem cu_pos {d : D} {p : Nat} (h : isL d p = true) : 0 < cu d (d 1 p) := by
  have h1 := isL_lt h
  have h2 := sm_pos (f := fun k => tb (isL d k && d 1 k == d 1 p)) h1
  have h3 : tb (isL d p && d 1 p == d 1 p) = 1 := by rw [h, beq_self_eq_true]; rfl
  have h4 : tb (isL d p && d 1 p == d 1 p) ≤ cu d (d 1 p) := h2
  omega
/-! tables -/
theorem tab_hi {F : (Nat → Nat) → Nat → Nat} : ∀ {j i : Nat}, j ≤ i → tab F j i = 0
  | 0, _, _ => rfl
  | j + 1, i, h => by
    show aup (tab F j) j _ i = 0
    rw [aup_n _ _ (by omega)]
    exact tab_hi (by omega)
theorem tab_st {F : (Nat → Nat) → Nat → Nat} {i : Nat} : ∀ {j m : Nat}, i < j → j ≤ m → tab F m i = tab F j i := by
  intro j m hi hm
  induction m with
  | zero => omega
  | succ m ih =>
    by_cases e : j = m + 1
    · rw [e]
    · show aup (tab F m) m _ i = _
      rw [aup_n _ _ (by omega)]
      exact ih (by omega)
theorem tab_at {F : (Nat → Nat) → Nat → Nat} {i m : Nat} (h : i < m) : tab F m i = F (tab F i) i := by
  rw [tab_st (Nat.lt_succ_self i) h]
  show aup (tab F i) i _ i = _
  rw [aup_s]
theorem dv_hi {d : D} {p : Nat} (h : d 0 0 ≤ p) : dv d p = 0 := tab_hi h
theorem dc_hi {d : D} {p : Nat} (h : d 0 0 ≤ p) : dc d p = 0 := tab_hi h
theorem dvF_cg {d : D} {f g : Nat → Nat} {p : Nat} (h : d 1 p ≠ 0 → f (d 1 p - 1) = g (d 1 p - 1)) : dvF d f p = dvF d g p := by
  unfold dvF
  by_cases e : d 1 p = 0
  · simp only [e, true_or, and_true, if_true]
  · rw [h e]
theorem dcF_cg {d : D} {f g : Nat → Nat} {p : Nat} (h : d 1 p ≠ 0 → f (d 1 p - 1) = g (d 1 p - 1)) : dcF d f p = dcF d g p := by
  unfold dcF
  by_cases e : d 1 p = 0
  · simp only [e, if_true]
  · rw [h e]
theorem dv_eq {d : D} (hV : Vd d) {p : Nat} (hp : p < d 0 0) : dv d p = dvF d (dv d) p := by
  show tab (dvF d) (d 0 0) p = _
  rw [tab_at hp]
  have h1 := vQ hV p hp
  exact dvF_cg (fun e => (tab_st (F := dvF d) (i := d 1 p - 1) (j := p) (m := d 0 0) (by omega) (by omega)).symm)
theorem dc_eq {d : D} (hV : Vd d) {p : Nat} (hp : p < d 0 0) : dc d p = dcF d (dc d) p := by
  show tab (dcF d) (d 0 0) p = _
  rw [tab_at hp]
  have h1 := vQ hV p hp
  exact dcF_cg (fun e => (tab_st (F := dcF d) (i := d 1 p - 1) (j := p) (m := d 0 0) (by omega) (by omega)).symm)
theorem tk_go {d : D} {p : Nat} (h : tk d p = true) : go d p = false := by
  unfold tk at h
  have h1 : d 3 p = 0 ∧ d 4 p = 0 := by
    revert h
    cases e1 : d 3 p <;> cases e2 : d 4 p <;> simp
  unfold go
  rw [h1.1, h1.2]
  rfl
theorem dv_L {d : D} (hV : Vd d) {p : Nat} (h : isL d p = false) : dv d p = 0 := by
  by_cases hp : p < d 0 0
  · rw [dv_eq hV hp]
    unfold dvF
    rw [if_neg (by rw [h]; intro q; exact absurd q.1 (by decide))]
  · exact dv_hi (by omega)
theorem dc_dv {d : D} (hV : Vd d) : ∀ p, isL d p = true → dc d p = dv d p := by
  intro p
  induction p using Nat.strongRecOn with
  | ind p ih =>
    intro hL
    have hp := isL_lt hL
    rw [dc_eq hV hp, dv_eq hV hp]
    unfold dcF dvF
    have hs : ¬ d 0 5 = p + 1 := by
      intro e
      rw [isL_eq hV hp] at hL
      unfold lnF at hL
      rw [e, beq_self_eq_true] at hL
      simp at hL
    rw [if_neg hs]
    by_cases h0 : d 1 p = 0
    · rw [if_pos h0, if_pos ⟨hL, Or.inl h0⟩, if_pos h0]
    · have h1 := vQ hV p hp
      obtain ⟨q, hq⟩ : ∃ q, d 1 p = q + 1 := ⟨d 1 p - 1, by omega⟩
      have hcu := cu_pos hL
      rw [hq] at hcu
      simp only [hq, Nat.add_sub_cancel, Nat.succ_ne_zero, if_false, false_or]
      have hqn : q < d 0 0 := by omega
      have hLq := isL_eq hV hqn
      by_cases hg : go d q = true
      · have ht : tk d q = false := by
          cases e : tk d q with
          | false => rfl
          | true => rw [tk_go e] at hg; exact absurd hg (by decide)
        rw [if_pos hg]
        by_cases hl : isL d q = true
        · rw [ih q (by omega) hl]
          by_cases hz : 0 < dv d q
          · rw [if_pos ⟨hL, hz, ht⟩]
          · rw [if_neg (fun z => hz z.2.1), show dv d q = 0 by omega, Nat.zero_mul]
        · have hl2 : isL d q = false := by revert hl; cases isL d q <;> simp
          rw [dv_L hV hl2, if_neg (fun z => absurd z.2.1 (Nat.lt_irrefl 0))]
          have : d 0 5 = q + 1 := by
            apply Classical.byContradiction
            intro hns
            apply hl
            rw [hLq]
            unfold lnF
            have hcu2 : lu d (isL d) (q + 1) ≠ 0 := Nat.ne_of_gt hcu
            rw [beq_false_of_ne hns, hg, beq_false_of_ne hcu2]
            cases tk d q <;> rfl
          rw [dc_eq hV hqn]
          unfold dcF
          rw [if_pos this, Nat.zero_mul]
      · have hg2 : go d q = false := by revert hg; cases go d q <;> simp
        rw [if_neg hg, Nat.zero_mul]
        by_cases ht : tk d q = false
        · have hl2 : isL d q = false := by
            rw [hLq]; unfold lnF; rw [hg2, ht]
            simp
          rw [dv_L hV hl2, if_neg (fun z => absurd z.2.1 (Nat.lt_irrefl 0))]
        · rw [if_neg (fun z => ht z.2.2)]
theorem he_dc {d : D} (hV : Vd d) (p : Nat) : he d p = (decide (0 < dc d p) && tk d p) := by
  unfold he
  by_cases hp : p < d 0 0
  · by_cases ht : tk d p = true
    · by_cases hs : d 0 5 = p + 1
      · have h1 : dc d p = 0 := by rw [dc_eq hV hp]; unfold dcF; rw [if_pos hs]
        have h2 : dv d p = 0 := by
          apply dv_L hV
          rw [isL_eq hV hp]; unfold lnF; rw [hs, beq_self_eq_true]; rfl
        rw [h1, h2]
      · have hL : isL d p = true := by
          rw [isL_eq hV hp]; unfold lnF; rw [beq_false_of_ne hs, ht]; rfl
        rw [dc_dv hV p hL]
    · have : tk d p = false := by revert ht; cases tk d p <;> simp
      rw [this, Bool.and_false, Bool.and_false]
  · rw [dv_hi (by omega), dc_hi (by omega)]
theorem he_lt {d : D} {p : Nat} (h : he d p = true) : p < d 0 0 := by
  by_cases q : p < d 0 0
  · exact q
  · unfold he at h
    rw [dv_hi (by omega)] at h
    exact absurd h (by simp)
theorem he_L {d : D} (hV : Vd d) {p : Nat} (h : he d p = true) : isL d p = true ∧ 0 < dv d p ∧ dc d p = dv d p := by
  have h1 : 0 < dv d p := by
    unfold he at h
    have := (Bool.and_eq_true_iff.mp h).1
    exact of_decide_eq_true this
  have h2 : isL d p = true := by
    cases e : isL d p with
    | true => rfl
    | false => rw [dv_L hV e] at h1; omega
  exact ⟨h2, h1, dc_dv hV p h2⟩
/-! bounds of divisors and weights -/
def pP (d : D) : Nat → Nat
  | 0 => max 1 (cu d 0)
  | q + 1 => pP d q * max 1 (cu d (q + 1))
theorem pP_pos (d : D) : ∀ q, 0 < pP d q
  | 0 => by show 0 < max 1 _; omega
  | q + 1 => Nat.mul_pos (pP_pos d q) (by omega)
theorem pP_dvd (d : D) {q r : Nat} (h : q ≤ r) : pP d q ∣ pP d r := by
  induction r with
  | zero => rw [Nat.le_zero.mp h]; exact Nat.dvd_refl _
  | succ r ih =>
    by_cases e : q = r + 1
    · rw [e]; exact Nat.dvd_refl _
    · exact Nat.dvd_trans (ih (by omega)) (Nat.dvd_mul_right _ _)
theorem le_two_pow : ∀ c : Nat, max 1 c ≤ 2 ^ c
  | 0 => by decide
  | c + 1 => by
    have := le_two_pow c
    rw [Nat.pow_succ]
    omega
theorem pP_le (d : D) : ∀ q, pP d q ≤ 2 ^ sm (cu d) (q + 1)
  | 0 => by
    show max 1 (cu d 0) ≤ 2 ^ (0 + cu d 0)
    rw [Nat.zero_add]
    exact le_two_pow _
  | q + 1 => by
    show pP d q * max 1 (cu d (q + 1)) ≤ 2 ^ (sm (cu d) (q + 1) + cu d (q + 1))
    rw [Nat.pow_add]
    exact Nat.mul_le_mul (pP_le d q) (le_two_pow _)
theorem sm_add {f g : Nat → Nat} : ∀ m, sm (fun i => f i + g i) m = sm f m + sm g m
  | 0 => rfl
  | m + 1 => by
    show sm _ m + (f m + g m) = (sm f m + f m) + (sm g m + g m)
    rw [sm_add m]
    omega
theorem sm_swap {f : Nat → Nat → Nat} : ∀ (m n : Nat), sm (fun i => sm (fun j => f i j) n) m = sm (fun j => sm (fun i => f i j) m) n
  | 0, n => (sm_zero (f := fun j => sm (fun i => f i j) 0) (m := n) (fun i _ => rfl)).symm
  | m + 1, n => by
    show sm (fun i => sm (fun j => f i j) n) m + sm (fun j => f m j) n = sm (fun j => sm (fun i => f i j) m + f m j) n
    rw [sm_swap m n, sm_add]
theorem sm_one (c m : Nat) (b : Bool) : sm (fun x => tb (b && c == x)) m ≤ 1 := by
  induction m with
  | zero => show 0 ≤ 1; omega
  | succ m ih =>
    show sm (fun x => tb (b && c == x)) m + tb (b && c == m) ≤ 1
    by_cases e : c = m
    · subst e
      have : sm (fun x => tb (b && c == x)) c = 0 := sm_zero (fun i hi => by rw [beq_false_of_ne (Nat.ne_of_gt hi), Bool.and_false]; rfl)
      have h := tb_le (b && c == c)
      omega
    · rw [beq_false_of_ne e, Bool.and_false]
      exact ih
theorem cu_sum (d : D) (m : Nat) : sm (cu d) m ≤ d 0 0 := by
  have e : sm (cu d) m = sm (fun k => sm (fun x => tb (isL d k && d 1 k == x)) m) (d 0 0) := sm_swap (f := fun x k => tb (isL d k && d 1 k == x)) m (d 0 0)
  rw [e]
  have h := sm_le (f := fun k => sm (fun x => tb (isL d k && d 1 k == x)) m) (b := 1) (m := d 0 0) (fun i _ => sm_one _ _ _)
  omega
theorem pP_b {d : D} (hV : Vd d) (q : Nat) : pP d q ≤ 4096 := by
  refine Nat.le_trans (pP_le d q) ?_
  have h := Nat.le_trans (cu_sum d (q + 1)) (vC hV).1
  exact Nat.le_trans (Nat.pow_le_pow_right (by decide) h) (by decide)
theorem dc_P {d : D} (hV : Vd d) : ∀ p, dc d p = 0 ∨ dc d p ∣ pP d (d 1 p) := by
  intro p
  induction p using Nat.strongRecOn with
  | ind p ih =>
    by_cases hp : p < d 0 0
    · rw [dc_eq hV hp]
      unfold dcF
      by_cases hs : d 0 5 = p + 1
      · rw [if_pos hs]; exact Or.inl rfl
      · rw [if_neg hs]
        have hx : ∀ c q, c ∣ max 1 q ∨ q = 0 → True := fun _ _ _ => trivial
        by_cases h0 : d 1 p = 0
        · rw [if_pos h0, h0, Nat.one_mul]
          by_cases hc : cu d 0 = 0
          · exact Or.inl hc
          · right
            show cu d 0 ∣ max 1 (cu d 0)
            rw [show max 1 (cu d 0) = cu d 0 by omega]
            exact Nat.dvd_refl _
        · rw [if_neg h0]
          have h1 := vQ hV p hp
          obtain ⟨q, hq⟩ : ∃ q, d 1 p = q + 1 := ⟨d 1 p - 1, by omega⟩
          rw [hq, Nat.add_sub_cancel]
          by_cases hg : go d q = true
          · rw [if_pos hg]
            by_cases hc : cu d (q + 1) = 0
            · left; rw [hc, Nat.mul_zero]
            · rcases ih q (by omega) with h2 | h2
              · left; rw [h2, Nat.zero_mul]
              · right
                show _ ∣ pP d q * max 1 (cu d (q + 1))
                rw [show max 1 (cu d (q + 1)) = cu d (q + 1) by omega]
                have h3 := vQ hV q (by omega)
                exact Nat.mul_dvd_mul (Nat.dvd_trans h2 (pP_dvd d h3)) (Nat.dvd_refl _)
          · rw [if_neg hg, Nat.zero_mul]; exact Or.inl rfl
    · exact Or.inl (dc_hi (by omega))
theorem dc_le {d : D} (hV : Vd d) (p : Nat) : dc d p ≤ 4096 := by
  rcases dc_P hV p with h | h
  · omega
  · exact Nat.le_trans (Nat.le_of_dvd (pP_pos d _) h) (pP_b hV _)
theorem cu_le {d : D} (hV : Vd d) (q : Nat) : cu d q ≤ 12 := Nat.le_trans (lu_le _ _) (vC hV).1
theorem ml_P {d : D} (hV : Vd d) : ∀ j, 0 < ml d j ∧ ml d j ∣ pP d 12
  | 0 => ⟨Nat.one_pos, Nat.one_dvd _⟩
  | j + 1 => by
    have ih := ml_P hV j
    show 0 < (if he d j = true then _ else _) ∧ (if he d j = true then _ else _) ∣ _
    by_cases h : he d j = true
    · rw [if_pos h]
      have h1 := he_L hV h
      have h2 : dv d j ∣ pP d 12 := by
        rcases dc_P hV j with e | e
        · omega
        · rw [h1.2.2] at e
          exact Nat.dvd_trans e (pP_dvd d (vP hV j))
      have e : ml d j / Nat.gcd (ml d j) (dv d j) * dv d j = Nat.lcm (ml d j) (dv d j) := by
        unfold Nat.lcm
        rw [Nat.div_mul_right_comm (Nat.gcd_dvd_left _ _)]
      rw [e]
      exact ⟨Nat.lcm_pos ih.1 h1.2.1, Nat.lcm_dvd ih.2 h2⟩
    · rw [if_neg h]
      exact ih
theorem ml_le {d : D} (hV : Vd d) (j : Nat) : ml d j ≤ 4096 := Nat.le_trans (Nat.le_of_dvd (pP_pos d _) (ml_P hV j).2) (pP_b hV _)
theorem ml_dvd {d : D} {i : Nat} : ∀ {j k : Nat}, i ≤ j → j ≤ k → ml d j ∣ ml d k := by
  intro j k hi hk
  induction k with
  | zero => rw [Nat.le_zero.mp hk]; exact Nat.dvd_refl _
  | succ k ih =>
    by_cases e : j = k + 1
    · rw [e]; exact Nat.dvd_refl _
    · refine Nat.dvd_trans (ih (by omega)) ?_
      show ml d k ∣ (if he d k = true then _ else _)
      split
      · have e : ml d k / Nat.gcd (ml d k) (dv d k) * dv d k = Nat.lcm (ml d k) (dv d k) := by
          unfold Nat.lcm
          rw [Nat.div_mul_right_comm (Nat.gcd_dvd_left _ _)]
        rw [e]
        exact Nat.dvd_lcm_left _ _
      · exact Nat.dvd_refl _
/-- each heir's divisor divides the multiple -/
theorem dv_ml {d : D} {p k : Nat} (hp : p < k) (h : he d p = true) : dv d p ∣ ml d k := by
  refine Nat.dvd_trans ?_ (ml_dvd (i := 0) (j := p + 1) (Nat.zero_le _) hp)
  show dv d p ∣ (if he d p = true then _ else _)
  rw [if_pos h]
  exact Nat.dvd_mul_left _ _
theorem ml_12 {d : D} : ∀ {j : Nat}, d 0 0 ≤ j → ml d j = ml d (d 0 0) := by
  intro j h
  induction j with
  | zero => rw [Nat.le_zero.mp h]
  | succ j ih =>
    by_cases e : d 0 0 = j + 1
    · rw [e]
    · show (if he d j = true then _ else _) = _
      rw [if_neg (fun z => by have := he_lt z; omega)]
      exact ih (by omega)
theorem wt_pos {d : D} (hV : Vd d) {p : Nat} : 0 < wt d p ↔ he d p = true := by
  unfold wt
  constructor
  · intro h
    by_cases q : he d p = true
    · exact q
    · rw [if_neg q] at h; omega
  · intro h
    rw [if_pos h]
    exact Nat.div_pos (Nat.le_of_dvd (ml_P hV _).1 (dv_ml (he_lt h) h)) (he_L hV h).2.1
theorem wt_le {d : D} (hV : Vd d) (p : Nat) : wt d p ≤ 4096 := by
  unfold wt
  split
  · exact Nat.le_trans (Nat.div_le_self _ _) (ml_le hV _)
  · omega
theorem wt_hi {d : D} {p : Nat} (h : d 0 0 ≤ p) : wt d p = 0 := by
  unfold wt
  rw [if_neg (fun z => by have := he_lt z; omega)]
