theorem ow_du {d : D} (hV : Vd d) : ow d = du d 5 := by
  have e : du d 5 = sm (fun i => sm (fun r => cl d (r + 1) i) 5) 8 := sm_swap (f := fun r i => cl d (r + 1) i) 5 8
  rw [e]
  unfold ow
  apply sm_cg
  intro i _
  show (if i < d 0 2 then d 8 i else 0) = 0 + cl d 1 i + cl d 2 i + cl d 3 i + cl d 4 i + cl d 5 i
  unfold cl
  by_cases h : i < d 0 2
  · have h1 := vR hV i h
    have h2 := vD hV i
    rcases (show d 7 i = 1 ∨ d 7 i = 2 ∨ d 7 i = 3 ∨ d 7 i = 4 ∨ d 7 i = 5 by omega) with q | q | q | q | q <;> rw [q] <;> simp [h]
  · simp [h]
theorem ow_n {d : D} (hV : Vd d) : sm (fun i => d 8 i) (d 0 2) = ow d := by
  unfold ow
  rw [sm_ext (a := d 0 2) (b := 8) (vC hV).2.2.1 (fun i h1 _ => if_neg (by omega))]
  exact sm_cg (fun i hi => (if_pos hi).symm)
/-- weights, but for one person (0: for none) -/
def wb (d : D) (b p : Nat) : Nat := if b = p + 1 then 0 else wt d p
def lk9 (d : D) (b k : Nat) : Nat → Nat := lo (a8 d) (gf d) (wb d b) k
def otb (d : D) (b k p : Nat) : Bool := ot (a8 d) (gf d) (wb d b) k p
def pb (d : D) (b k : Nat) : Nat := pt (a8 d) (gf d) (lk9 d b k)
def ovk (d : D) (b k : Nat) : Nat → Nat := ov (a8 d) (gf d) (lk9 d b k)
theorem wb_0 (d : D) : wb d 0 = wt d := funext fun p => if_neg (by omega)
theorem wb_le {d : D} (hV : Vd d) (b p : Nat) : wb d b p ≤ 4096 := by
  unfold wb
  have := wt_le hV p
  split <;> omega
theorem lk9_le {d : D} (hV : Vd d) (b k p : Nat) : lk9 d b k p ≤ 4096 := Nat.le_trans lo_lw (wb_le hV b p)
theorem lk9_hi {d : D} {b k p : Nat} (h : d 0 0 ≤ p) : lk9 d b k p = 0 := by
  have h1 := lo_lw (F := a8 d) (G := gf d) (w := wb d b) (k := k) (p := p)
  have h2 : wb d b p = 0 := by unfold wb; split; rfl; exact wt_hi h
  unfold lk9
  omega
theorem in_eq {d : D} (hV : Vd d) (b k p : Nat) : (he d p && !(otb d b k p) && !(b == p + 1)) = decide (0 < lk9 d b k p) := by
  have h1 := lo_lw (F := a8 d) (G := gf d) (w := wb d b) (k := k) (p := p)
  unfold otb ot lk9
  by_cases hb : b = p + 1
  · have h2 : wb d b p = 0 := if_pos hb
    rw [decide_eq_false (show ¬ 0 < lo (a8 d) (gf d) (wb d b) k p by omega), hb, beq_self_eq_true]
    simp
  · have h2 : wb d b p = wt d p := if_neg hb
    rw [beq_false_of_ne hb]
    by_cases hh : he d p = true
    · have h3 := (wt_pos hV).mpr hh
      rw [hh, decide_eq_true (show 0 < wb d b p by omega)]
      by_cases h4 : lo (a8 d) (gf d) (wb d b) k p = 0
      · rw [h4]; rfl
      · rw [beq_false_of_ne h4, decide_eq_true (by omega)]; rfl
    · have h3 : wt d p = 0 := by
        have := (wt_pos hV (p := p))
        apply Nat.eq_zero_of_not_pos
        intro z
        exact hh (this.mp z)
      have h5 : he d p = false := by revert hh; cases he d p <;> simp
      rw [h5, show decide (0 < lo (a8 d) (gf d) (wb d b) k p) = false from decide_eq_false (by omega)]
      rfl
theorem lk9_wt {d : D} {b k p : Nat} (h : 0 < lk9 d b k p) : wt d p = lk9 d b k p := by
  unfold lk9 at h ⊢
  rcases lo_le (a8 d) (gf d) (wb d b) k p with e | e
  · rw [e]
    unfold wb
    rw [e] at h
    unfold wb at h
    split
    · rename_i z; rw [if_pos z] at h; omega
    · rfl
  · omega
/-- what the model's settlement holds -/
def MSE (fa fp fl fi fh fo fd fs fu fc : Nat → Int32) (gw gm : Nat → Int64) (d : D) : Prop := (fa 0 = nI (nts d) ∧ fa 1 = nI (nts d - lf d 5) ∧ fa 2 = nI (du d 5 - (nts d - lf d 5)) ∧ fa 3 = nI (lu9 d) ∧ fa 4 = nI (rs d) ∧ fa 5 = nI (a5 d) ∧ fa 6 = nI (a6 d) ∧ fa 7 = nI (a7 d) ∧ fa 8 = nI (a8 d) ∧ fa 9 = nI (a9 d)) ∧ (∀ i, i < d 0 2 → fp i = nI (pd d i)) ∧ (∀ i, i < 8 → fl i = nI (lp d i)) ∧ (∀ p, p < d 0 0 → fi p = nI (tb (isL d p))) ∧ (∀ p, p < d 0 0 → fh p = nI (tb (he d p))) ∧ (∀ p, p < 12 → fo p = nI (tb (ou d p))) ∧ (∀ p, p < d 0 0 → fd p = nI (dv d p)) ∧ (∀ p, p < d 0 0 → fs p = sv d p) ∧ (∀ p, p < d 0 0 → fu p = nI (bs (po d) (sm (w9 d) 12) (w9 d) p)) ∧ (∀ p, p < d 0 0 → fc p = nI (tb (ce (po d) (sm (w9 d) 12) (w9 d) 12 p))) ∧ (∀ p, p < d 0 0 → gw p = lN (wt d p)) ∧ gm 31 = lN (po d)
def MS (σ : SS) (d : D) : Prop := MSE (σ.1 64) (σ.1 62) (σ.1 63) (σ.1 65) (σ.1 66) (σ.1 67) (σ.1 68) (σ.1 70) (σ.1 71) (σ.1 72) (σ.2 69) (σ.2 53) d
theorem e9_e (d : D) : lk9 d 0 12 = w9 d := by
  unfold lk9 w9 wf
  rw [wb_0]
theorem epb_e (d : D) : pb d 0 12 = po d := by
  unfold pb po
  rw [e9_e]
theorem otb_ou (d : D) (p : Nat) : otb d 0 12 p = ou d p := by
  unfold otb ot ou w9 wf
  rw [wb_0]
theorem noI3 {s : Nat} (h : ¬ oI s = -1) : s ≠ 0 := by
  intro z
  rw [z] at h
  exact h oI_0
