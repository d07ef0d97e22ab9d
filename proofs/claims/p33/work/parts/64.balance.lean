/-! What is given out is the estate. -/
theorem ac_1 (s l c g : Int32) : s + l + c + g = s + g + l + c := by ac_rfl
theorem ac_2 (x y a b : Int32) : x + y + (a + b) = x + a + (y + b) := by ac_rfl
theorem sm_one9 {k x : Nat} : ∀ {m : Nat}, k < m → sm (fun p => if k = p then x else 0) m = x
  | 0, h => absurd h (Nat.not_lt_zero _)
  | m + 1, h => by
    show sm (fun p => if k = p then x else 0) m + (if k = m then x else 0) = x
    by_cases e : k = m
    · rw [if_pos e, sm_zero (fun i hi => if_neg (by omega)), Nat.zero_add]
    · rw [if_neg e, sm_one9 (by omega), Nat.add_zero]
theorem ce_ct {t W : Nat} {w : Nat → Nat} {m : Nat} : ∀ i, sm (fun j => tb (ce t W w m j)) i + rm t W w m i = rm t W w m 0
  | 0 => Nat.zero_add _
  | i + 1 => by
    have ih := ce_ct (t := t) (W := W) (w := w) (m := m) i
    show sm (fun j => tb (ce t W w m j)) i + tb (ce t W w m i) + (if 0 < rm t W w m i ∧ 0 < w i then rm t W w m i - 1 else rm t W w m i) = rm t W w m 0
    unfold ce
    by_cases h : 0 < rm t W w m i ∧ 0 < w i
    · rw [if_pos h, decide_eq_true h]
      have e : tb true = 1 := rfl
      have ih2 : sm (fun j => tb (decide (0 < rm t W w m j ∧ 0 < w j))) i + rm t W w m i = rm t W w m 0 := ih
      omega
    · rw [if_neg h, decide_eq_false h]
      have e : tb false = 0 := rfl
      have ih2 : sm (fun j => tb (decide (0 < rm t W w m j ∧ 0 < w j))) i + rm t W w m i = rm t W w m 0 := ih
      omega
theorem sp_sum {t : Nat} {w : Nat → Nat} {m : Nat} : sm (sp t (sm w m) w m) m = if sm w m = 0 then 0 else t := by
  have h1 : sm (sp t (sm w m) w m) m = sm (bs t (sm w m) w) m + sm (fun j => tb (ce t (sm w m) w m j)) m := sm_add m
  have h2 := ce_ct (t := t) (W := sm w m) (w := w) (m := m) m
  rw [rm_end] at h2
  have h3 := bs_le t w m
  have h4 : rm t (sm w m) w m 0 = (if sm w m = 0 then 0 else t) - sm (bs t (sm w m) w) m := rfl
  omega
theorem pr_sum {d : D} (r : Nat) : sm (pr d (r + 1)) 8 = us d (r + 1) := by
  have h : sm (pr d (r + 1)) 8 = if sm (cl d (r + 1)) 8 = 0 then 0 else us d (r + 1) := sp_sum
  rw [h]
  have h2 := us_s d r
  by_cases q : sm (cl d (r + 1)) 8 = 0
  · rw [if_pos q, h2, q]; omega
  · rw [if_neg q]
theorem pk_sum {d : D} (hd : Vd d) : ∀ k, sm (pk9 d k) 8 = nts d - lf d k
  | 0 => by
    rw [sm_zero (fun i _ => pk9_0 hd i)]
    show 0 = nts d - nts d
    omega
  | k + 1 => by
    have ih := pk_sum hd k
    have h1 : sm (pk9 d (k + 1)) 8 = sm (fun i => pk9 d k i + pr d (k + 1) i) 8 := sm_cg (fun i _ => (pk9_s hd k i).symm)
    rw [h1, sm_add, ih, pr_sum]
    have h2 : us d (k + 1) ≤ lf d k := Nat.min_le_left _ _
    have h3 : lf d (k + 1) = lf d k - us d (k + 1) := rfl
    have h4 := lf_le d k
    omega
theorem pd_sum {d : D} (hd : Vd d) : sm (pd d) (d 0 2) = nts d - lf d 5 := by
  have h : sm (pd d) 8 = sm (pd d) (d 0 2) := sm_ext (vC hd).2.2.1 (fun i h1 _ => if_neg (by omega))
  rw [← h, ← pk_sum hd 5]
  exact sm_cg (fun i _ => (pk9_5 hd i).symm)
theorem lp_sum {d : D} (hd : Vd d) : sm (lp d) (d 0 4) = lu9 d := by
  have h : sm (lp d) 8 = sm (lp d) (d 0 4) := sm_ext (vC hd).2.2.2.2.1 (fun i h1 _ => sp_zero (if_neg (fun z => by omega)))
  rw [← h]
  have h2 : sm (lp d) 8 = if sm (lc d) 8 = 0 then 0 else lu9 d := sp_sum
  rw [h2]
  have h3 : lu9 d = min (lf d 5) (sm (lc d) 8) := rfl
  by_cases q : sm (lc d) 8 = 0
  · rw [if_pos q, h3, q]; omega
  · rw [if_neg q]
theorem hm_pos {d : D} (hd : Vd d) (h : hm d ≠ 0) : 0 < sm (w9 d) 12 := by
  have h1 : 0 < sm (fun p => tb (he d p)) (d 0 0) := Nat.pos_of_ne_zero h
  obtain ⟨i, hi, h2⟩ := sm_ex h1
  have h3 : he d i = true := by
    cases q : he d i
    · simp only [q] at h2
      exact absurd h2 (by decide)
    · rfl
  have h4 := (wt_pos hd (p := i)).mpr h3
  have h5 := sm_pos (f := wt d) (i := i) (m := 12) (by have := (vC hd).1; omega)
  have h6 : 0 < sm (wt d) 12 := by omega
  exact (wf_stab (F := a8 d) (G := gf d) h6).1
theorem ps_sum {d : D} (hd : Vd d) : sm (ps d) (d 0 0) = if hm d = 0 then 0 else po d := by
  have h : sm (ps d) 12 = sm (ps d) (d 0 0) := sm_ext (vC hd).1 (fun i h1 _ => sp_zero (show w9 d i = 0 from w9_hi (d := d) (G := gf d) h1))
  rw [← h]
  have h2 : sm (ps d) 12 = if sm (w9 d) 12 = 0 then 0 else po d := sp_sum
  rw [h2]
  by_cases q : hm d = 0
  · rw [if_pos q, if_pos (show sm (w9 d) 12 = 0 from hm_w (G := gf d) hd q)]
  · rw [if_neg q, if_neg (by have := hm_pos hd q; omega)]
theorem lg_sum {d : D} (hd : Vd d) : sm (lg9 d) (d 0 0) = lu9 d := by
  rw [← lp_sum hd]
  have h : sm (lg9 d) (d 0 0) = sm (fun k => sm (fun p => if d 11 k = p then lp d k else 0) (d 0 0)) (d 0 4) := sm_swap (f := fun p k => if d 11 k = p then lp d k else 0) (d 0 0) (d 0 4)
  rw [h]
  refine sm_cg (fun k hk => ?_)
  have h1 := vN hd k hk
  exact sm_one9 h1
def bP (d : D) (p : Nat) : Nat := ps d p + lg9 d p + (if d 0 5 = p + 1 then a5 d + a7 d else 0)
theorem gv_bal {d : D} (p : Nat) : gv d p + nI (gs9 (gf d) (w9 d) p) = nI (bP d p) := by
  have h1 : sv d p + nI (gs9 (gf d) (w9 d) p) = nI (ps d p) := by
    unfold sv gs9
    by_cases q : 0 < w9 d p
    · rw [if_pos q, if_pos q, Int32.sub_add_cancel]
    · rw [if_neg q, if_neg q]
      have h2 : ps d p = 0 := sp_zero (by omega)
      rw [h2]
      decide
  have h2 : (if d 0 5 = p + 1 then nI (a5 d + a7 d) else 0) = nI (if d 0 5 = p + 1 then a5 d + a7 d else 0) := by
    split
    · rfl
    · decide
  unfold gv bP
  rw [h2, ← nI_add, ← nI_add, ← h1]
  exact ac_1 _ _ _ _
theorem gvs_bal {d : D} : ∀ j, gvs d j + nI (sm (gs9 (gf d) (w9 d)) j) = nI (nts d - lf d 5 + a9 d + sm (bP d) j)
  | 0 => by
    show nI (nts d - lf d 5) + nI (a9 d) + nI 0 = nI (nts d - lf d 5 + a9 d + 0)
    rw [nI_add, nI_add]
  | j + 1 => by
    have ih := gvs_bal (d := d) j
    have h := gv_bal (d := d) j
    show gvs d j + gv d j + nI (sm (gs9 (gf d) (w9 d)) j + gs9 (gf d) (w9 d) j) = nI (nts d - lf d 5 + a9 d + (sm (bP d) j + bP d j))
    rw [← Nat.add_assoc, ← nI_add, ← nI_add, ← ih, ← h]
    exact ac_2 _ _ _ _
theorem bal_ok {d : D} (hd : Vd d) : bal d = true := by
  have h1 := gvs_bal (d := d) (d 0 0)
  have h2 : sm (gs9 (gf d) (w9 d)) 12 = sm (gs9 (gf d) (w9 d)) (d 0 0) := sm_ext (vC hd).1 (fun i h1 _ => by unfold gs9; rw [show w9 d i = 0 from w9_hi (d := d) (G := gf d) h1]; rfl)
  have h3 : po d = a8 d + sm (gs9 (gf d) (w9 d)) 12 := pt_gs _ _ _
  have h4 : sm (bP d) (d 0 0) = sm (ps d) (d 0 0) + sm (lg9 d) (d 0 0) + sm (fun p => if d 0 5 = p + 1 then a5 d + a7 d else 0) (d 0 0) := by
    unfold bP
    rw [sm_add (f := fun p => ps d p + lg9 d p), sm_add]
  have h5 : sm (fun p => if d 0 5 = p + 1 then a5 d + a7 d else 0) (d 0 0) = a5 d + a7 d := by
    have h05 := (vC hd).2.2.2.2.2.1
    cases q : d 0 5 with
    | zero =>
      have e1 : hs d = false := by unfold hs; rw [q]; rfl
      have e2 : a5 d = 0 := by unfold a5; rw [if_neg (by rw [e1]; decide)]
      have e3 : a6 d = 0 := by unfold a6; rw [if_neg (fun z => by rw [e1] at z; cases z.1)]
      have e4 : a7 d = 0 := by unfold a7; rw [e3, Nat.zero_mul]
      rw [e2, e4]
      exact sm_zero (fun i _ => if_neg (by omega))
    | succ k =>
      have e : sm (fun p => if k = p then a5 d + a7 d else 0) (d 0 0) = a5 d + a7 d := sm_one9 (by omega)
      refine Eq.trans (sm_cg (fun i _ => ?_)) e
      by_cases z : k = i
      · rw [if_pos z, if_pos (by omega)]
      · rw [if_neg z, if_neg (by omega)]
  rw [ps_sum hd, lg_sum hd, h5] at h4
  have h6 := lf_le d 5
  have h7 : lu9 d ≤ lf d 5 := Nat.min_le_left _ _
  have h8 : rs d = lf d 5 - lu9 d := rfl
  have h9 := a5_le hd
  have h10 := a6_le hd
  have h11 := a7_le hd
  have hkey : nts d - lf d 5 + a9 d + sm (bP d) (d 0 0) = nts d + sm (gs9 (gf d) (w9 d)) (d 0 0) := by
    rw [h4]
    by_cases q : hm d = 0
    · rw [if_pos q]
      have g1 : sm (gs9 (gf d) (w9 d)) 12 = 0 := by
        have z : sm (w9 d) 12 = 0 := hm_w (G := gf d) hd q
        refine sm_zero (fun i hi => ?_)
        have z2 := sm_pos (f := w9 d) hi
        unfold gs9
        rw [if_neg (by omega)]
      rw [← h2, g1]
      have g6 : a6 d = 0 := by unfold a6; rw [if_neg (fun z => z.2 q)]
      have g7 : a7 d = 0 := by unfold a7; rw [g6, Nat.zero_mul]
      cases hh : hs d
      · have g5 : a5 d = 0 := by unfold a5; rw [if_neg (by rw [hh]; decide)]
        have g9 : a9 d = rs d := by unfold a9; rw [if_pos ⟨hh, q⟩]
        omega
      · have g5 : a5 d = rs d := by unfold a5; rw [if_pos hh, if_pos q]
        have g9 : a9 d = 0 := by unfold a9; rw [if_neg (fun z => by rw [hh] at z; cases z.1)]
        omega
    · rw [if_neg q]
      have g9 : a9 d = 0 := by unfold a9; rw [if_neg (fun z => q z.2)]
      have g8 : a8 d = rs d - a5 d - a7 d := by unfold a8; rw [if_neg q]
      omega
  rw [hkey, ← nI_add] at h1
  unfold bal
  have h12 : gvs d (d 0 0) = nI (nts d) := by
    have h13 := congrArg (fun x => x - nI (sm (gs9 (gf d) (w9 d)) (d 0 0))) h1
    simp only [Int32.add_sub_cancel] at h13
    exact h13
  rw [h12]
  exact beq_self_eq_true _
