/-! Leaving out: who is in at the end does not hang on the order. -/
def gs9 (G v : Nat → Nat) (p : Nat) : Nat := if 0 < v p then G p else 0
theorem pt_gs (F : Nat) (G v : Nat → Nat) : pt F G v = F + sm (gs9 G v) 12 := rfl
theorem sm_mulr {f : Nat → Nat} (c : Nat) : ∀ m, sm (fun i => f i * c) m = sm f m * c
  | 0 => (Nat.zero_mul c).symm
  | m + 1 => by
    show sm (fun i => f i * c) m + f m * c = (sm f m + f m) * c
    rw [sm_mulr c m, Nat.add_mul]
theorem sm_mull {f : Nat → Nat} (c : Nat) (m : Nat) : sm (fun i => c * f i) m = c * sm f m := by
  rw [Nat.mul_comm c (sm f m), ← sm_mulr c m]
  exact sm_cg (fun i _ => Nat.mul_comm _ _)
theorem sm_lem {f g : Nat → Nat} : ∀ {m : Nat}, (∀ i, i < m → f i ≤ g i) → sm f m ≤ sm g m
  | 0, _ => Nat.le_refl _
  | m + 1, h => by
    show sm f m + f m ≤ sm g m + g m
    exact Nat.add_le_add (sm_lem (fun i hi => h i (Nat.lt_succ_of_lt hi))) (h m (Nat.lt_succ_self m))
theorem sm_ltm {f g : Nat → Nat} {m j : Nat} (h : ∀ i, i < m → f i ≤ g i) (hj : j < m) (hs : f j < g j) : sm f m < sm g m := by
  induction m with
  | zero => omega
  | succ m ih =>
    show sm f m + f m < sm g m + g m
    by_cases e : j = m
    · subst e
      have := sm_lem (fun i hi => h i (Nat.lt_succ_of_lt hi))
      omega
    · have h1 := ih (fun i hi => h i (Nat.lt_succ_of_lt hi)) (by omega)
      have h2 := h m (Nat.lt_succ_self m)
      omega
theorem sm_ex {f : Nat → Nat} : ∀ {m : Nat}, 0 < sm f m → ∃ i, i < m ∧ 0 < f i
  | 0, h => absurd h (Nat.lt_irrefl 0)
  | m + 1, h => by
    by_cases q : 0 < f m
    · exact ⟨m, Nat.lt_succ_self m, q⟩
    · have h1 : 0 < sm f m := by
        have h2 : sm f m + f m = sm f (m + 1) := rfl
        omega
      obtain ⟨i, hi, hf⟩ := sm_ex h1
      exact ⟨i, Nat.lt_succ_of_lt hi, hf⟩
def stab (F : Nat) (G w v : Nat → Nat) : Prop := 0 < sm v 12 ∧ (∀ i, v i = w i ∨ v i = 0) ∧ (∀ i, i < 12 → 0 < v i → G i * sm v 12 ≤ pt F G v * w i) ∧ ∀ i, i < 12 → 0 < w i → v i = 0 → pt F G v * w i < G i * sm v 12
theorem ov_iff {F : Nat} {G v : Nat → Nat} {i : Nat} (hs : 0 < sm v 12) : 0 < ov F G v i ↔ 0 < v i ∧ pt F G v * v i < G i * sm v 12 := by
  unfold ov
  by_cases h : 0 < v i
  · rw [if_pos h]
    constructor
    · intro q
      have h1 : pt F G v * v i / sm v 12 < G i := by omega
      exact ⟨h, (Nat.div_lt_iff_lt_mul hs).mp h1⟩
    · intro q
      have h1 := (Nat.div_lt_iff_lt_mul hs).mpr q.2
      omega
  · rw [if_neg h]
    exact ⟨fun q => absurd q (Nat.lt_irrefl 0), fun q => absurd q.1 h⟩
theorem lo_inv {F : Nat} {G w : Nat → Nat} (hw : 0 < sm w 12) : ∀ k, 0 < sm (lo F G w k) 12 ∧ ∀ i, i < 12 → 0 < w i → lo F G w k i = 0 → pt F G (lo F G w k) * w i < G i * sm (lo F G w k) 12
  | 0 => ⟨hw, fun i _ h1 h2 => by
      have h3 : w i = 0 := h2
      omega⟩
  | k + 1 => by
    obtain ⟨ih1, ih2⟩ := lo_inv (F := F) (G := G) hw k
    cases hj : (ws (ov F G (lo F G w k)) 12).1 with
    | zero =>
      have e : lo F G w (k + 1) = lo F G w k := ls_fix hj
      rw [e]
      exact ⟨ih1, ih2⟩
    | succ j =>
      have h1 := (ws_sp (ov F G (lo F G w k)) 12).2.2 j hj
      have e : lo F G w (k + 1) = aup (lo F G w k) j 0 := ls_st hj
      have hv := lo_le F G w k
      rw [e]
      revert hv ih1 ih2 h1
      generalize lo F G w k = v
      intro ih1 ih2 h1 hv
      obtain ⟨h2, h3⟩ := (ov_iff ih1).mp h1.2.2
      have hvj : v j = w j := by rcases hv j with q | q <;> omega
      have hS := sm_aup (f := v) (x := 0) h1.1
      have hg : gs9 G (aup v j 0) = aup (gs9 G v) j 0 := by
        funext i
        unfold gs9
        by_cases q : i = j
        · subst q; rw [aup_s, aup_s]; exact if_neg (Nat.lt_irrefl 0)
        · rw [aup_n _ _ q, aup_n _ _ q]
      have hP := sm_aup (f := gs9 G v) (x := 0) h1.1
      rw [← hg] at hP
      have hgj : gs9 G v j = G j := if_pos h2
      rw [pt_gs] at h3
      have hs : 0 < sm (aup v j 0) 12 := by
        apply Nat.pos_of_ne_zero
        intro z
        have h4 : sm v 12 = v j := by omega
        have h5 : sm (gs9 G v) 12 ≥ G j := by rw [← hgj]; exact sm_pos h1.1
        rw [h4] at h3
        have h6 : G j * v j ≤ (F + sm (gs9 G v) 12) * v j := Nat.mul_le_mul_right _ (by omega)
        omega
      refine ⟨hs, fun i hi hwi hzi => ?_⟩
      have hlev : pt F G (aup v j 0) * sm v 12 ≤ pt F G v * sm (aup v j 0) 12 := by
        rw [pt_gs, pt_gs]
        have e1 : sm v 12 = sm (aup v j 0) 12 + v j := by omega
        have e2 : sm (gs9 G v) 12 = sm (gs9 G (aup v j 0)) 12 + G j := by omega
        rw [e1, e2] at h3 ⊢
        generalize sm (aup v j 0) 12 = a at *
        generalize sm (gs9 G (aup v j 0)) 12 = b at *
        have e3 : (F + b) * (a + v j) = (F + b) * a + (F + b) * v j := Nat.mul_add _ _ _
        have e4 : (F + (b + G j)) * a = (F + b) * a + G j * a := by rw [← Nat.add_assoc, Nat.add_mul]
        have e5 : (F + (b + G j)) * v j = (F + b) * v j + G j * v j := by rw [← Nat.add_assoc, Nat.add_mul]
        have e6 : G j * (a + v j) = G j * a + G j * v j := Nat.mul_add _ _ _
        omega
      have hold : pt F G v * w i < G i * sm v 12 := by
        by_cases q : i = j
        · subst q
          rw [pt_gs, ← hvj]; exact h3
        · rw [aup_n _ _ q] at hzi
          exact ih2 i hi hwi hzi
      have h7 : pt F G (aup v j 0) * w i * sm v 12 < G i * sm (aup v j 0) 12 * sm v 12 := by
        have h8 : pt F G (aup v j 0) * sm v 12 * w i ≤ pt F G v * sm (aup v j 0) 12 * w i := Nat.mul_le_mul_right _ hlev
        have h9 : pt F G v * w i * sm (aup v j 0) 12 < G i * sm v 12 * sm (aup v j 0) 12 := (Nat.mul_lt_mul_right hs).mpr hold
        have r1 : pt F G (aup v j 0) * w i * sm v 12 = pt F G (aup v j 0) * sm v 12 * w i := Nat.mul_right_comm _ _ _
        have r2 : pt F G v * sm (aup v j 0) 12 * w i = pt F G v * w i * sm (aup v j 0) 12 := Nat.mul_right_comm _ _ _
        have r3 : G i * sm (aup v j 0) 12 * sm v 12 = G i * sm v 12 * sm (aup v j 0) 12 := Nat.mul_right_comm _ _ _
        omega
      exact Nat.lt_of_mul_lt_mul_right h7
theorem wf_stab {F : Nat} {G w : Nat → Nat} (hw : 0 < sm w 12) : stab F G w (wf F G w) := by
  have h : 0 < sm (wf F G w) 12 ∧ ∀ i, i < 12 → 0 < w i → wf F G w i = 0 → pt F G (wf F G w) * w i < G i * sm (wf F G w) 12 := lo_inv (F := F) (G := G) hw 12
  refine ⟨h.1, lo_le F G w 12, fun i hi hv => ?_, h.2⟩
  have h1 := ws_no (wf_fix F G w) i hi
  have h2 : wf F G w i = w i ∨ wf F G w i = 0 := lo_le F G w 12 i
  have h3 : ¬ 0 < ov F G (wf F G w) i := by omega
  rw [ov_iff h.1] at h3
  have e : wf F G w i = w i := by
    rcases h2 with q | q
    · exact q
    · have : wf F G w i = 0 := q
      omega
  have h4 : ¬ pt F G (wf F G w) * wf F G w i < G i * sm (wf F G w) 12 := fun z => h3 ⟨hv, z⟩
  rw [e] at h4
  exact Nat.not_lt.mp h4
theorem stab_sub {F : Nat} {G w v1 v2 : Nat → Nat} (h1 : stab F G w v1) (h2 : stab F G w v2) (hl : pt F G v1 * sm v2 12 ≤ pt F G v2 * sm v1 12) : ∀ i, i < 12 → (0 < v1 i ↔ 0 < v2 i) := by
  obtain ⟨s1, a1, b1, c1⟩ := h1
  obtain ⟨s2, a2, b2, c2⟩ := h2
  have hin : ∀ i, i < 12 → 0 < v1 i → 0 < v2 i := by
    intro i hi hv
    apply Nat.pos_of_ne_zero
    intro hz
    have hw : 0 < w i := by rcases a1 i with q | q <;> omega
    have q1 := b1 i hi hv
    have q2 := c2 i hi hw hz
    have q3 : G i * sm v1 12 * sm v2 12 ≤ pt F G v1 * w i * sm v2 12 := Nat.mul_le_mul_right _ q1
    have q4 : pt F G v1 * sm v2 12 * w i ≤ pt F G v2 * sm v1 12 * w i := Nat.mul_le_mul_right _ hl
    have q5 : pt F G v2 * w i * sm v1 12 < G i * sm v2 12 * sm v1 12 := (Nat.mul_lt_mul_right s1).mpr q2
    have r1 : pt F G v1 * w i * sm v2 12 = pt F G v1 * sm v2 12 * w i := Nat.mul_right_comm _ _ _
    have r2 : pt F G v2 * sm v1 12 * w i = pt F G v2 * w i * sm v1 12 := Nat.mul_right_comm _ _ _
    have r3 : G i * sm v1 12 * sm v2 12 = G i * sm v2 12 * sm v1 12 := Nat.mul_right_comm _ _ _
    omega
  intro i hi
  refine ⟨hin i hi, fun hv2 => ?_⟩
  apply Classical.byContradiction
  intro hn
  have hz : v1 i = 0 := by omega
  -- the difference
  have hd : ∀ j, j < 12 → v2 j = v1 j + (if v1 j = 0 then v2 j else 0) := by
    intro j hj
    by_cases q : v1 j = 0
    · rw [if_pos q]; omega
    · rw [if_neg q]
      have := hin j hj (by omega)
      rcases a1 j with z | z <;> rcases a2 j with y | y <;> omega
  have hg : ∀ j, j < 12 → gs9 G v2 j = gs9 G v1 j + (if v1 j = 0 then gs9 G v2 j else 0) := by
    intro j hj
    unfold gs9
    by_cases q : v1 j = 0
    · rw [if_pos q, q]; simp
    · rw [if_neg q, if_pos (hin j hj (by omega)), if_pos (by omega)]; rfl
  have hS : sm v2 12 = sm v1 12 + sm (fun j => if v1 j = 0 then v2 j else 0) 12 := by
    rw [sm_cg hd]; exact sm_add 12
  have hP : sm (gs9 G v2) 12 = sm (gs9 G v1) 12 + sm (fun j => if v1 j = 0 then gs9 G v2 j else 0) 12 := by
    rw [sm_cg hg]; exact sm_add 12
  have k1 : sm (fun j => (if v1 j = 0 then gs9 G v2 j else 0) * sm v2 12) 12 ≤ sm (fun j => pt F G v2 * (if v1 j = 0 then v2 j else 0)) 12 := by
    apply sm_lem
    intro j hj
    show (if v1 j = 0 then gs9 G v2 j else 0) * sm v2 12 ≤ pt F G v2 * (if v1 j = 0 then v2 j else 0)
    by_cases q : v1 j = 0
    · rw [if_pos q, if_pos q]
      unfold gs9
      by_cases z : 0 < v2 j
      · rw [if_pos z]
        have e : v2 j = w j := by rcases a2 j with y | y <;> omega
        rw [e]; exact b2 j hj z
      · rw [if_neg z, Nat.zero_mul]; exact Nat.zero_le _
    · rw [if_neg q, if_neg q, Nat.zero_mul]; exact Nat.zero_le _
  have k2 : sm (fun j => pt F G v1 * (if v1 j = 0 then v2 j else 0)) 12 < sm (fun j => (if v1 j = 0 then gs9 G v2 j else 0) * sm v1 12) 12 := by
    apply sm_ltm (j := i)
    · intro j hj
      show pt F G v1 * (if v1 j = 0 then v2 j else 0) ≤ (if v1 j = 0 then gs9 G v2 j else 0) * sm v1 12
      by_cases q : v1 j = 0
      · rw [if_pos q, if_pos q]
        unfold gs9
        by_cases z : 0 < v2 j
        · rw [if_pos z]
          have e : v2 j = w j := by rcases a2 j with y | y <;> omega
          have := c1 j hj (by omega) q
          rw [e]; omega
        · rw [if_neg z, show v2 j = 0 by omega, Nat.mul_zero]; exact Nat.zero_le _
      · rw [if_neg q, if_neg q, Nat.mul_zero]; exact Nat.zero_le _
    · exact hi
    · show pt F G v1 * (if v1 i = 0 then v2 i else 0) < (if v1 i = 0 then gs9 G v2 i else 0) * sm v1 12
      rw [if_pos hz, if_pos hz]
      unfold gs9
      rw [if_pos hv2]
      have e : v2 i = w i := by rcases a2 i with y | y <;> omega
      rw [e]
      exact c1 i hi (by omega) hz
  rw [sm_mulr, sm_mull] at k1 k2
  have u1 : pt F G v1 = F + sm (gs9 G v1) 12 := rfl
  have u2 : pt F G v2 = pt F G v1 + sm (fun j => if v1 j = 0 then gs9 G v2 j else 0) 12 := by
    rw [pt_gs, pt_gs, hP]; omega
  revert k1 k2 hl u2 hS
  generalize sm (fun j => if v1 j = 0 then gs9 G v2 j else 0) 12 = dg
  generalize sm (fun j => if v1 j = 0 then v2 j else 0) 12 = dw
  generalize pt F G v2 = P2
  generalize pt F G v1 = P1
  generalize sm v2 12 = S2
  generalize sm v1 12 = S1
  intro hl hS k1 k2 u2
  subst hS u2
  have e1 : dg * (S1 + dw) = dg * S1 + dg * dw := Nat.mul_add _ _ _
  have e2 : (P1 + dg) * dw = P1 * dw + dg * dw := Nat.add_mul _ _ _
  omega
theorem stab_eq {F : Nat} {G w v1 v2 : Nat → Nat} (h1 : stab F G w v1) (h2 : stab F G w v2) : ∀ i, i < 12 → (0 < v1 i ↔ 0 < v2 i) := by
  rcases Nat.le_total (pt F G v1 * sm v2 12) (pt F G v2 * sm v1 12) with q | q
  · exact stab_sub h1 h2 q
  · exact fun i hi => (stab_sub h2 h1 q i hi).symm
theorem pt_cg {F : Nat} {G G' v v' : Nat → Nat} (h : ∀ i, i < 12 → v i = v' i) (hG : ∀ i, i < 12 → 0 < v i → G i = G' i) : pt F G v = pt F G' v' := by
  rw [pt_gs, pt_gs]
  congr 1
  apply sm_cg
  intro i hi
  unfold gs9
  rw [← h i hi]
  by_cases q : 0 < v i
  · rw [if_pos q, if_pos q, hG i hi q]
  · rw [if_neg q, if_neg q]
/-- one heir's gift grows: from where on that heir is left out -/
theorem out_iff {F : Nat} {G w : Nat → Nat} {p x : Nat} (hp : p < 12) (hwp : 0 < w p) (hs : 0 < sm (aup w p 0) 12) : wf F (aup G p x) w p = 0 ↔ pt F G (wf F G (aup w p 0)) * w p < x * sm (wf F G (aup w p 0)) 12 := by
  have hS := sm_aup (f := w) (x := 0) hp
  have A := wf_stab (F := F) (G := G) hs
  have B := wf_stab (F := F) (G := aup G p x) (w := w) (by omega)
  have hq0 : wf F G (aup w p 0) p = 0 := by
    rcases A.2.1 p with q | q
    · rw [q, aup_s]
    · exact q
  revert A B hq0
  generalize wf F G (aup w p 0) = v0
  generalize wf F (aup G p x) w = v
  intro A B hq0
  constructor
  · intro hv
    have e1 : pt F (aup G p x) v = pt F G v := pt_cg (fun _ _ => rfl) (fun i _ h => aup_n _ _ (fun q => by rw [q] at h; omega))
    have C : stab F G (aup w p 0) v := by
      refine ⟨B.1, fun i => ?_, fun i hi h => ?_, fun i hi h1 h2 => ?_⟩
      · by_cases q : i = p
        · subst q; exact Or.inr hv
        · rw [aup_n _ _ q]; exact B.2.1 i
      · have q : i ≠ p := fun q => by rw [q] at h; omega
        have := B.2.2.1 i hi h
        rw [e1, aup_n _ _ q] at this
        rw [aup_n _ _ q]; exact this
      · have q : i ≠ p := fun q => by rw [q, aup_s] at h1; omega
        rw [aup_n _ _ q] at h1
        have := B.2.2.2 i hi h1 h2
        rw [e1, aup_n _ _ q] at this
        rw [aup_n _ _ q]; exact this
    have hE := stab_eq C A
    have hvv : ∀ i, i < 12 → v i = v0 i := by
      intro i hi
      have h1 := hE i hi
      have h2 := C.2.1 i
      have h3 := A.2.1 i
      rcases h2 with q | q <;> rcases h3 with z | z
      · omega
      · have : ¬ 0 < v i := fun y => by have := h1.mp y; omega
        omega
      · have : ¬ 0 < v0 i := fun y => by have := h1.mpr y; omega
        omega
      · omega
    have h9 := B.2.2.2 p hp hwp hv
    rw [e1, aup_s, sm_cg hvv, pt_cg (G' := G) hvv (fun _ _ _ => rfl)] at h9
    exact h9
  · intro hlt
    have e1 : pt F (aup G p x) v0 = pt F G v0 := pt_cg (fun _ _ => rfl) (fun i _ h => aup_n _ _ (fun q => by rw [q] at h; omega))
    have C : stab F (aup G p x) w v0 := by
      refine ⟨A.1, fun i => ?_, fun i hi h => ?_, fun i hi h1 h2 => ?_⟩
      · by_cases q : i = p
        · subst q; exact Or.inr hq0
        · have := A.2.1 i
          rw [aup_n _ _ q] at this
          exact this
      · have q : i ≠ p := fun q => by rw [q] at h; omega
        have := A.2.2.1 i hi h
        rw [aup_n _ _ q] at this
        rw [e1, aup_n _ _ q]; exact this
      · by_cases q : i = p
        · subst q
          rw [e1, aup_s]; exact hlt
        · have := A.2.2.2 i hi (by rw [aup_n _ _ q]; exact h1) h2
          rw [aup_n _ _ q] at this
          rw [e1, aup_n _ _ q]; exact this
    have hE := stab_eq B C p hp
    apply Nat.eq_zero_of_not_pos
    intro z
    have := hE.mp z
    omega
/-- the class's question, and the answer of both -/
def lw9 (d : D) (p g : Nat) : Bool := ot (a8 d) (aup (gf d) p (gf d p + g)) (wt d) 12 p
def fu (d : D) (p : Nat) : Nat := pb d (p + 1) 12 * wt d p / sm (lk9 d (p + 1) 12) 12 + 1 - gf d p
def tm (d : D) (p : Nat) : Nat := if he d p = true ∧ ou d p = false ∧ hm d ≠ 1 ∧ fu d p ≤ 9999999 then fu d p + 1 else 0
theorem wb_aup (d : D) (p : Nat) : wb d (p + 1) = aup (wt d) p 0 := by
  funext i
  unfold wb
  by_cases q : i = p
  · subst q; rw [aup_s, if_pos rfl]
  · rw [aup_n _ _ q, if_neg (by omega)]
theorem wt_sum {d : D} (hV : Vd d) {p : Nat} (hh : he d p = true) : 0 < sm (aup (wt d) p 0) 12 ↔ hm d ≠ 1 := by
  have hp := he_lt hh
  have hC := vC hV
  have h1 := sm_aup (f := fun q => tb (he d q)) (x := 0) hp
  have h2 : tb (he d p) = 1 := by rw [hh]; rfl
  have h3 : sm (aup (fun q => tb (he d q)) p 0) (d 0 0) + tb (he d p) = hm d + 0 := h1
  constructor
  · intro h
    obtain ⟨i, hi, hf⟩ := sm_ex h
    have q : i ≠ p := fun q => by rw [q, aup_s] at hf; omega
    rw [aup_n _ _ q] at hf
    have h4 := (wt_pos hV).mp hf
    have h5 := sm_pos (f := aup (fun q => tb (he d q)) p 0) (he_lt h4)
    rw [aup_n _ _ q] at h5
    have h6 : tb (he d i) = 1 := by rw [h4]; rfl
    have h7 : tb (he d i) ≤ sm (aup (fun q => tb (he d q)) p 0) (d 0 0) := h5
    omega
  · intro h
    have h4 : 0 < sm (aup (fun q => tb (he d q)) p 0) (d 0 0) := by omega
    obtain ⟨i, hi, hf⟩ := sm_ex h4
    have q : i ≠ p := fun q => by rw [q, aup_s] at hf; omega
    rw [aup_n _ _ q] at hf
    have h5 := (wt_pos hV).mpr (tb_ne (Nat.ne_of_gt hf))
    have h6 := sm_pos (f := aup (wt d) p 0) (show i < 12 by omega)
    rw [aup_n _ _ q] at h6
    omega
theorem lw9_iff {d : D} (hV : Vd d) {p : Nat} (hh : he d p = true) (hm1 : hm d ≠ 1) (g : Nat) : lw9 d p g = true ↔ pb d (p + 1) 12 * wt d p / sm (lk9 d (p + 1) 12) 12 + 1 ≤ gf d p + g := by
  have hp : p < 12 := by have := he_lt hh; have := vC hV; omega
  have hwp := (wt_pos hV).mpr hh
  have hs := (wt_sum hV hh).mpr hm1
  have A := wf_stab (F := a8 d) (G := gf d) hs
  have h := out_iff (F := a8 d) (G := gf d) (x := gf d p + g) hp hwp hs
  have e1 : lk9 d (p + 1) 12 = wf (a8 d) (gf d) (aup (wt d) p 0) := by unfold lk9 wf; rw [wb_aup]
  have e2 : pb d (p + 1) 12 = pt (a8 d) (gf d) (wf (a8 d) (gf d) (aup (wt d) p 0)) := by unfold pb; rw [e1]
  rw [e1, e2]
  have h3 : lw9 d p g = true ↔ wf (a8 d) (aup (gf d) p (gf d p + g)) (wt d) p = 0 := by
    unfold lw9 ot wf
    rw [decide_eq_true hwp, Bool.true_and]
    exact beq_iff_eq
  rw [h3, h]
  constructor
  · intro q
    have := (Nat.div_lt_iff_lt_mul A.1).mpr q
    omega
  · intro q
    exact (Nat.div_lt_iff_lt_mul A.1).mp (by omega)
theorem lw9_one {d : D} (hV : Vd d) {p : Nat} (hh : he d p = true) (hm1 : hm d = 1) (g : Nat) : lw9 d p g = false := by
  have hp : p < 12 := by have := he_lt hh; have := vC hV; omega
  have hwp := (wt_pos hV).mpr hh
  have hs : sm (aup (wt d) p 0) 12 = 0 := by
    apply Nat.eq_zero_of_not_pos
    intro z
    exact (wt_sum hV hh).mp z hm1
  have hS := sm_aup (f := wt d) (x := 0) hp
  have B := wf_stab (F := a8 d) (G := aup (gf d) p (gf d p + g)) (w := wt d) (by omega)
  unfold lw9 ot
  show (decide (0 < wt d p) && wf (a8 d) (aup (gf d) p (gf d p + g)) (wt d) p == 0) = false
  obtain ⟨i, hi, hf⟩ := sm_ex B.1
  by_cases q : i = p
  · subst q
    rw [beq_false_of_ne (Nat.ne_of_gt hf), Bool.and_false]
  · exfalso
    have h1 := sm_pos (f := aup (wt d) p 0) hi
    rw [aup_n _ _ q] at h1
    rcases B.2.1 i with z | z <;> omega
theorem fu_pos {d : D} (hV : Vd d) {p : Nat} (hh : he d p = true) (ho : ou d p = false) (hm1 : hm d ≠ 1) : gf d p ≤ pb d (p + 1) 12 * wt d p / sm (lk9 d (p + 1) 12) 12 := by
  have h := lw9_iff hV hh hm1 0
  have e : lw9 d p 0 = ou d p := by
    unfold lw9 ot ou w9 wf
    rw [Nat.add_zero, aup_self rfl]
  rw [e, ho] at h
  apply Classical.byContradiction
  intro z
  exact absurd (h.mpr (by omega)) (by decide)
