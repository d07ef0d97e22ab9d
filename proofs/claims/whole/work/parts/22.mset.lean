theorem ow_du {d : D} (hV : Vd d) : ow d = du d 5 := by
  have e : du d 5 = sm (fun i => sm (fun r => cl d (r + 1) i) 5) 8 := sm_swap (f := fun r i => cl d (r + 1) i) 5 8
  rw [e]
  unfold ow
  apply sm_cg
  intro i _
  show (if i < d 0 2 then d 8 i else 0) = 0 + cl d 1 i + cl d 2 i + cl d 3 i + cl d 4 i + cl d 5 i
  unfold cl
  by_cases h : i < d 0 2
  · have h1 := vR hV i h
    have h2 := vD hV i
    rcases (show d 7 i = 1 ∨ d 7 i = 2 ∨ d 7 i = 3 ∨ d 7 i = 4 ∨ d 7 i = 5 by omega) with q | q | q | q | q <;> rw [q] <;> simp [h]
  · simp [h]
theorem ow_n {d : D} (hV : Vd d) : sm (fun i => d 8 i) (d 0 2) = ow d := by
  unfold ow
  rw [sm_ext (a := d 0 2) (b := 8) (vC hV).2.2.1 (fun i h1 _ => if_neg (by omega))]
  exact sm_cg (fun i hi => (if_pos hi).symm)
/-- weights, but for one person (0: for none) -/
def wb (d : D) (b p : Nat) : Nat := if b = p + 1 then 0 else wt d p
def lk9 (d : D) (b k : Nat) : Nat → Nat := lo (a8 d) (gf d) (wb d b) k
def otb (d : D) (b k p : Nat) : Bool := ot (a8 d) (gf d) (wb d b) k p
def pb (d : D) (b k : Nat) : Nat := pt (a8 d) (gf d) (lk9 d b k)
def ovk (d : D) (b k : Nat) : Nat → Nat := ov (a8 d) (gf d) (lk9 d b k)
theorem wb_0 (d : D) : wb d 0 = wt d := funext fun p => if_neg (by omega)
theorem wb_le {d : D} (hV : Vd d) (b p : Nat) : wb d b p ≤ 4096 := by
  unfold wb
  have := wt_le hV p
  split <;> omega
theorem lk9_le {d : D} (hV : Vd d) (b k p : Nat) : lk9 d b k p ≤ 4096 := Nat.le_trans lo_lw (wb_le hV b p)
theorem lk9_hi {d : D} {b k p : Nat} (h : d 0 0 ≤ p) : lk9 d b k p = 0 := by
  have h1 := lo_lw (F := a8 d) (G := gf d) (w := wb d b) (k := k) (p := p)
  have h2 : wb d b p = 0 := by unfold wb; split; rfl; exact wt_hi h
  unfold lk9
  omega
theorem in_eq {d : D} (hV : Vd d) (b k p : Nat) : (he d p && !(otb d b k p) && !(b == p + 1)) = decide (0 < lk9 d b k p) := by
  have h1 := lo_lw (F := a8 d) (G := gf d) (w := wb d b) (k := k) (p := p)
  unfold otb ot lk9
  by_cases hb : b = p + 1
  · have h2 : wb d b p = 0 := if_pos hb
    rw [decide_eq_false (show ¬ 0 < lo (a8 d) (gf d) (wb d b) k p by omega), hb, beq_self_eq_true]
    simp
  · have h2 : wb d b p = wt d p := if_neg hb
    rw [beq_false_of_ne hb]
    by_cases hh : he d p = true
    · have h3 := (wt_pos hV).mpr hh
      rw [hh, decide_eq_true (show 0 < wb d b p by omega)]
      by_cases h4 : lo (a8 d) (gf d) (wb d b) k p = 0
      · rw [h4]; rfl
      · rw [beq_false_of_ne h4, decide_eq_true (by omega)]; rfl
    · have h3 : wt d p = 0 := by
        have := (wt_pos hV (p := p))
        apply Nat.eq_zero_of_not_pos
        intro z
        exact hh (this.mp z)
      have h5 : he d p = false := by revert hh; cases he d p <;> simp
      rw [h5, show decide (0 < lo (a8 d) (gf d) (wb d b) k p) = false from decide_eq_false (by omega)]
      rfl
theorem lk9_wt {d : D} {b k p : Nat} (h : 0 < lk9 d b k p) : wt d p = lk9 d b k p := by
  unfold lk9 at h ⊢
  rcases lo_le (a8 d) (gf d) (wb d b) k p with e | e
  · rw [e]
    unfold wb
    rw [e] at h
    unfold wb at h
    split
    · rename_i z; rw [if_pos z] at h; omega
    · rfl
  · omega
/-- what the model's settlement holds -/
def MSE (fa fp fl fi fh fo fd fs fu fc : Nat → Int32) (gw gm : Nat → Int64) (d : D) : Prop := (fa 0 = nI (nts d) ∧ fa 1 = nI (nts d - lf d 5) ∧ fa 2 = nI (du d 5 - (nts d - lf d 5)) ∧ fa 3 = nI (lu9 d) ∧ fa 4 = nI (rs d) ∧ fa 5 = nI (a5 d) ∧ fa 6 = nI (a6 d) ∧ fa 7 = nI (a7 d) ∧ fa 8 = nI (a8 d) ∧ fa 9 = nI (a9 d)) ∧ (∀ i, i < d 0 2 → fp i = nI (pd d i)) ∧ (∀ i, i < 8 → fl i = nI (lp d i)) ∧ (∀ p, p < d 0 0 → fi p = nI (tb (isL d p))) ∧ (∀ p, p < d 0 0 → fh p = nI (tb (he d p))) ∧ (∀ p, p < 12 → fo p = nI (tb (ou d p))) ∧ (∀ p, p < d 0 0 → fd p = nI (dv d p)) ∧ (∀ p, p < d 0 0 → fs p = sv d p) ∧ (∀ p, p < d 0 0 → fu p = nI (bs (po d) (sm (w9 d) 12) (w9 d) p)) ∧ (∀ p, p < d 0 0 → fc p = nI (tb (ce (po d) (sm (w9 d) 12) (w9 d) 12 p))) ∧ (∀ p, p < d 0 0 → gw p = lN (wt d p)) ∧ gm 31 = lN (po d)
def MS (σ : SS) (d : D) : Prop := MSE (σ.1 64) (σ.1 62) (σ.1 63) (σ.1 65) (σ.1 66) (σ.1 67) (σ.1 68) (σ.1 70) (σ.1 71) (σ.1 72) (σ.2 69) (σ.2 53) d
theorem e9_e (d : D) : lk9 d 0 12 = w9 d := by
  unfold lk9 w9 wf
  rw [wb_0]
theorem epb_e (d : D) : pb d 0 12 = po d := by
  unfold pb po
  rw [e9_e]
theorem otb_ou (d : D) (p : Nat) : otb d 0 12 p = ou d p := by
  unfold otb ot ou w9 wf
  rw [wb_0]
theorem noI3 {s : Nat} (h : ¬ oI s = -1) : s ≠ 0 := by
  intro z
  rw [z] at h
  exact h oI_0
theorem c_pays {l9 : Bool} {sc : SC} {σ : SS} {d : D} {k : Nat} (hM : MR (σ.1 54) d) (hV : Vd d) (hk : k < 5) (hP : ∀ i, i < d 0 2 → d 7 i ≤ k → σ.1 62 i = nI (pd d i)) : Cs (true, l9) sc mX10_pays 0 0 [.ref 53, .int (nI (k + 1)), .int (nI (lf d k))] σ (RI fun v σ' => ∃ f61 f60 f62 g59, v = nI (lf d (k + 1)) ∧ σ' = mz σ [(61, f61), (60, f60), (62, f62)] [(59, g59)] ∧ ∀ i, i < d 0 2 → d 7 i ≤ k + 1 → f62 i = nI (pd d i)) := by
  refine Cs.of gmX10_pays (Nat.le_of_ble_eq_true rfl) ?_
  show Ws (true, l9) sc mX10_pays 0 0 0 0 0 [(0, .ref 53), (1, .int (nI (k + 1))), (2, .int (nI (lf d k)))] [] (mz σ [] []) (RI fun v σ' => ∃ f61 f60 f62 g59, v = nI (lf d (k + 1)) ∧ σ' = mz σ [(61, f61), (60, f60), (62, f62)] [(59, g59)] ∧ ∀ i, i < d 0 2 → d 7 i ≤ k + 1 → f62 i = nI (pd d i))
  have hC := vC hV
  have hl := lf_le d k
  have hnt := nts_le hV hC.2.1
  have hNe : sm (nt d) (d 0 1) = nts d := rfl
  rw [hNe] at hnt
  have hcs := cls_le hV (k + 1)
  have hu := us_s d k
  refine n_iconst 0 rfl ?_
  refine r_istore_n (lv' := [(3, .int (nI 0)), (0, .ref 53), (1, .int (nI (k + 1))), (2, .int (nI (lf d k)))]) rfl rfl (Nat.le_of_ble_eq_true rfl) rfl ?_
  refine n_iconst 0 rfl ?_
  refine r_istore (lv' := [(4, .int (nI 0)), (3, .int (nI 0)), (0, .ref 53), (1, .int (nI (k + 1))), (2, .int (nI (lf d k)))]) rfl (Nat.le_of_ble_eq_true rfl) rfl ?_
  refine r_lv (lv' := [(4, .int (nI 0)), (3, .int (nI 0)), (0, .ref 53), (1, .int (nI (k + 1))), (2, .int (nI (lf d k)))]) [0, 1, 2, 3, 4] rfl ?_
  refine m_newL (M' := [(59, (σ.2 59))]) 59 rfl ?_
  have loop : ∀ (m9 : Nat) (i : Nat) (g : Nat → Int64), 8 - i < m9 → (i ≤ 8) → (∀ j, j < i → g j = lN (cl d (k + 1) j)) → Ws (true, l9) sc mX10_pays 0 0 0 0 5 [(4, .int (nI i)), (3, .int (nI (sm (cl d (k + 1)) i))), (0, .ref 53), (1, .int (nI (k + 1))), (2, .int (nI (lf d k)))] [] (mz σ [] [(59, g)]) (RI fun v σ' => ∃ f61 f60 f62 g59, v = nI (lf d (k + 1)) ∧ σ' = mz σ [(61, f61), (60, f60), (62, f62)] [(59, g59)] ∧ ∀ i, i < d 0 2 → d 7 i ≤ k + 1 → f62 i = nI (pd d i)) := by
    intro m9
    induction m9 with
    | zero => intro i g hme; exact absurd hme (Nat.not_lt_zero _)
    | succ m9 ih =>
      intro i g hme hi hg
      have hD := vD hV i
      have hcl := cl_le hV (k + 1) i
      refine r_iload rfl rfl ?_
      refine n_bipush 8 rfl (by decide) ?_
      refine n_icmp_ge (tgt := 82) rfl rfl (by omega) (by omega) (fun h1 => ?_) (fun h1 => ?_)
      · have hie : i = 8 := by omega
        subst hie
        refine r_iload_n rfl rfl ?_
        refine r_iload_n rfl rfl ?_
        suffices K : Ws (true, l9) sc mX10_pays 0 0 0 0 92 [(4, .int (nI 8)), (3, .int (nI (sm (cl d (k + 1)) 8))), (0, .ref 53), (1, .int (nI (k + 1))), (2, .int (nI (lf d k)))] [.int (nI (us d (k + 1)))] (mz σ [] [(59, g)]) (RI fun v σ' => ∃ f61 f60 f62 g59, v = nI (lf d (k + 1)) ∧ σ' = mz σ [(61, f61), (60, f60), (62, f62)] [(59, g59)] ∧ ∀ i, i < d 0 2 → d 7 i ≤ k + 1 → f62 i = nI (pd d i)) by
          refine n_icmp_ge (tgt := 91) rfl rfl (by omega) (by omega) (fun h2 => ?_) (fun h2 => ?_)
          · refine r_iload_n rfl rfl ?_
            exact r_top (by rw [hu, Nat.min_eq_right (by omega)]) K
          · refine r_iload_n rfl rfl ?_
            refine r_goto (tgt := 92) rfl rfl ?_
            exact r_top (by rw [hu, Nat.min_eq_left (by omega)]) K
        refine r_istore (lv' := [(4, .int (nI (us d (k + 1)))), (3, .int (nI (sm (cl d (k + 1)) 8))), (0, .ref 53), (1, .int (nI (k + 1))), (2, .int (nI (lf d k)))]) rfl (Nat.le_of_ble_eq_true rfl) rfl ?_
        refine r_aload_n rfl rfl ?_
        refine r_iload rfl rfl ?_
        refine n_i2l rfl (by omega) ?_
        refine n_bipush 8 rfl (by decide) ?_
        refine s_virV [.long (lN (us d (k + 1))), .int (nI 8)] [] rfl lkX10_261 rfl rfl rfl (c_splits_8 (by omega) hg (by omega)) rfl rfl (Nat.le_refl _) (Nat.le_refl _) rfl ?_
        rintro _ ⟨f60, f61, rfl, h60, h61⟩
        refine m_mz (L' := [(61, f61), (60, f60)]) (M' := [(59, g)]) rfl rfl ?_
        refine n_iconst 0 rfl ?_
        refine r_istore (lv' := [(5, .int (nI 0)), (4, .int (nI (us d (k + 1)))), (3, .int (nI (sm (cl d (k + 1)) 8))), (0, .ref 53), (1, .int (nI (k + 1))), (2, .int (nI (lf d k)))]) rfl (Nat.le_of_ble_eq_true rfl) rfl ?_
        refine r_lv (lv' := [(5, .int (nI 0)), (0, .ref 53), (1, .int (nI (k + 1))), (2, .int (nI (lf d k))), (4, .int (nI (us d (k + 1))))]) [0, 3, 4, 5, 1] rfl ?_
        refine m_newI (L' := [(61, f61), (60, f60), (62, (σ.1 62))]) 62 rfl ?_
        have loop2 : ∀ (m9_2 : Nat) (q : Nat) (f : Nat → Int32), d 0 2 - q < m9_2 → (q ≤ d 0 2) → (∀ j, j < d 0 2 → (d 7 j ≤ k ∨ (j < q ∧ d 7 j ≤ k + 1)) → f j = nI (pd d j)) → Ws (true, l9) sc mX10_pays 0 0 0 0 106 [(5, .int (nI q)), (0, .ref 53), (1, .int (nI (k + 1))), (2, .int (nI (lf d k))), (4, .int (nI (us d (k + 1))))] [] (mz σ [(61, f61), (60, f60), (62, f)] [(59, g)]) (RI fun v σ' => ∃ f61 f60 f62 g59, v = nI (lf d (k + 1)) ∧ σ' = mz σ [(61, f61), (60, f60), (62, f62)] [(59, g59)] ∧ ∀ i, i < d 0 2 → d 7 i ≤ k + 1 → f62 i = nI (pd d i)) := by
          intro m9_2
          induction m9_2 with
          | zero => intro q f hme; exact absurd hme (Nat.not_lt_zero _)
          | succ m9_2 ih2 =>
            intro q f hme hq hf
            have hD := vD hV q
            refine r_iload rfl rfl ?_
            refine r_aload_n rfl rfl ?_
            refine s_getR (r := 54) rfl flX10_7 rfl rfl ?_
            refine n_iconst 2 rfl ?_
            refine s_iald (x := nI (d 0 2)) rfl rfl (by decide) (MRat hM 0 2 (by decide) (by decide)) ?_
            refine n_icmp_ge (tgt := 163) rfl rfl (by omega) (by omega) (fun h2 => ?_) (fun h2 => ?_)
            · refine r_iload_n rfl rfl ?_
              refine r_iload rfl rfl ?_
              refine n_isub rfl (by omega) ?_
              exact s_ret (st := []) rfl rfl rfl (Nat.zero_le _) (Nat.zero_le _) (⟨_, rfl, f61, f60, f, g, by rw [hu]; rfl, rfl, fun i hi h => hf i hi (Or.inr ⟨by omega, h⟩)⟩)
            · refine r_aload_n rfl rfl ?_
              refine s_getR (r := 62) rfl flX10_41 rfl rfl ?_
              refine r_iload rfl rfl ?_
              refine r_aload_n rfl rfl ?_
              refine s_getR (r := 54) rfl flX10_7 rfl rfl ?_
              refine n_bipush 74 rfl (by decide) ?_
              refine n_iconst 2 rfl ?_
              refine r_iload rfl rfl ?_
              refine n_imul rfl ?_
              refine n_iadd rfl ?_
              refine s_iald (x := nI (d 7 q)) rfl rfl (by omega) (Md0 hM (by omega)) ?_
              refine r_iload_n rfl rfl ?_
              refine n_icmp_ne (tgt := 149) rfl rfl (by omega) (by omega) (fun h3 => ?_) (fun h3 => ?_)
              · refine r_aload_n rfl rfl ?_
                refine s_getR (r := 62) rfl flX10_41 rfl rfl ?_
                refine r_iload rfl rfl ?_
                refine s_iald (x := f q) rfl rfl (by omega) rfl ?_
                refine m_iast (L' := [(61, f61), (60, f60), (62, (aup f q (f q)))]) rfl rfl (by omega) rfl ?_
                refine n_iinc (lv' := [(5, .int (nI (q + 1))), (0, .ref 53), (1, .int (nI (k + 1))), (2, .int (nI (lf d k))), (4, .int (nI (us d (k + 1))))]) 1 rfl rfl (Nat.le_of_ble_eq_true rfl) rfl ?_
                refine r_goto (tgt := 106) rfl rfl ?_
                have hf2 : ∀ j, j < d 0 2 → (d 7 j ≤ k ∨ (j < q + 1 ∧ d 7 j ≤ k + 1)) → aup f q (f q) j = nI (pd d j) := by
                  intro j hj h
                  rw [aup_self rfl]
                  apply hf j hj
                  by_cases e : j = q
                  · subst e; omega
                  · omega
                refine r_lv (lv' := [(5, .int (nI (q + 1))), (0, .ref 53), (1, .int (nI (k + 1))), (2, .int (nI (lf d k))), (4, .int (nI (us d (k + 1))))]) [0, 1, 2, 3, 4] rfl ?_
                exact ih2 (q + 1) _ (by omega) (by omega) hf2
              · refine r_aload_n rfl rfl ?_
                refine s_getR (r := 60) rfl flX10_34 rfl rfl ?_
                refine r_iload rfl rfl ?_
                refine s_iald (x := nI (pr d (k + 1) q)) rfl rfl (by omega) (h60 q (by omega)) ?_
                refine r_goto (tgt := 156) rfl rfl ?_
                refine m_iast (L' := [(61, f61), (60, f60), (62, (aup f q (nI (pr d (k + 1) q))))]) rfl rfl (by omega) rfl ?_
                refine n_iinc (lv' := [(5, .int (nI (q + 1))), (0, .ref 53), (1, .int (nI (k + 1))), (2, .int (nI (lf d k))), (4, .int (nI (us d (k + 1))))]) 1 rfl rfl (Nat.le_of_ble_eq_true rfl) rfl ?_
                refine r_goto (tgt := 106) rfl rfl ?_
                have hf2 : ∀ j, j < d 0 2 → (d 7 j ≤ k ∨ (j < q + 1 ∧ d 7 j ≤ k + 1)) → aup f q (nI (pr d (k + 1) q)) j = nI (pd d j) := by
                  intro j hj h
                  by_cases e : j = q
                  · subst e; rw [aup_s]; unfold pd; rw [if_pos hj, h3]
                  · rw [aup_n _ _ e]; exact hf j hj (by omega)
                refine r_lv (lv' := [(5, .int (nI (q + 1))), (0, .ref 53), (1, .int (nI (k + 1))), (2, .int (nI (lf d k))), (4, .int (nI (us d (k + 1))))]) [0, 1, 2, 3, 4] rfl ?_
                exact ih2 (q + 1) _ (by omega) (by omega) hf2
        exact loop2 (d 0 2 + 1) 0 _ (by omega) (by omega) (fun j hj h => hP j hj (by omega))
      · refine r_aload_n rfl rfl ?_
        refine s_getR (r := 59) rfl flX10_31 rfl rfl ?_
        refine r_iload rfl rfl ?_
        refine r_iload rfl rfl ?_
        refine r_aload_n rfl rfl ?_
        refine s_getR (r := 54) rfl flX10_7 rfl rfl ?_
        refine n_iconst 2 rfl ?_
        refine s_iald (x := nI (d 0 2)) rfl rfl (by decide) (MRat hM 0 2 (by decide) (by decide)) ?_
        suffices K : Ws (true, l9) sc mX10_pays 0 0 0 0 64 [(4, .int (nI i)), (3, .int (nI (sm (cl d (k + 1)) i))), (0, .ref 53), (1, .int (nI (k + 1))), (2, .int (nI (lf d k)))] [.long (lN (cl d (k + 1) i)), .int (nI i), .ref 59] (mz σ [] [(59, g)]) (RI fun v σ' => ∃ f61 f60 f62 g59, v = nI (lf d (k + 1)) ∧ σ' = mz σ [(61, f61), (60, f60), (62, f62)] [(59, g59)] ∧ ∀ i, i < d 0 2 → d 7 i ≤ k + 1 → f62 i = nI (pd d i)) by
          refine n_icmp_ge (tgt := 63) rfl rfl (by omega) (by omega) (fun h2 => ?_) (fun h2 => ?_)
          · have e : cl d (k + 1) i = 0 := if_neg (by omega)
            refine n_lconst0 rfl ?_
            rw [e] at K
            exact K
          · refine r_aload_n rfl rfl ?_
            refine s_getR (r := 54) rfl flX10_7 rfl rfl ?_
            refine n_bipush 74 rfl (by decide) ?_
            refine n_iconst 2 rfl ?_
            refine r_iload rfl rfl ?_
            refine n_imul rfl ?_
            refine n_iadd rfl ?_
            refine s_iald (x := nI (d 7 i)) rfl rfl (by omega) (Md0 hM (by omega)) ?_
            refine r_iload_n rfl rfl ?_
            refine n_icmp_ne (tgt := 63) rfl rfl (by omega) (by omega) (fun h3 => ?_) (fun h3 => ?_)
            · have e : cl d (k + 1) i = 0 := if_neg (by omega)
              refine n_lconst0 rfl ?_
              rw [e] at K
              exact K
            · have e : cl d (k + 1) i = d 8 i := if_pos (by omega)
              refine r_aload_n rfl rfl ?_
              refine s_getR (r := 54) rfl flX10_7 rfl rfl ?_
              refine n_bipush 74 rfl (by decide) ?_
              refine n_iconst 2 rfl ?_
              refine r_iload rfl rfl ?_
              refine n_imul rfl ?_
              refine n_iadd rfl ?_
              refine n_iconst 1 rfl ?_
              refine n_iadd rfl ?_
              refine s_iald (x := nI (d 8 i)) rfl rfl (by omega) (Md1 hM (by omega)) ?_
              refine n_i2l rfl (by omega) ?_
              refine r_goto (tgt := 64) rfl rfl ?_
              rw [e] at K
              exact K
        refine m_last (M' := [(59, (aup g i (lN (cl d (k + 1) i))))]) rfl rfl (by omega) rfl ?_
        refine r_iload_n rfl rfl ?_
        refine r_aload_n rfl rfl ?_
        refine s_getR (r := 59) rfl flX10_31 rfl rfl ?_
        refine r_iload rfl rfl ?_
        refine s_lald (x := lN (cl d (k + 1) i)) rfl rfl (by omega) (aup_s _ _ _) ?_
        refine n_l2i rfl ?_
        refine n_iadd rfl ?_
        refine r_istore_n (lv' := [(3, .int (nI ((sm (cl d (k + 1)) i) + (cl d (k + 1) i)))), (4, .int (nI i)), (0, .ref 53), (1, .int (nI (k + 1))), (2, .int (nI (lf d k)))]) rfl rfl (Nat.le_of_ble_eq_true rfl) rfl ?_
        refine n_iinc (lv' := [(4, .int (nI (i + 1))), (3, .int (nI ((sm (cl d (k + 1)) i) + (cl d (k + 1) i)))), (0, .ref 53), (1, .int (nI (k + 1))), (2, .int (nI (lf d k)))]) 1 rfl rfl (Nat.le_of_ble_eq_true rfl) rfl ?_
        refine r_goto (tgt := 5) rfl rfl ?_
        refine r_lv (lv' := [(4, .int (nI (i + 1))), (3, .int (nI ((sm (cl d (k + 1)) i) + (cl d (k + 1) i)))), (0, .ref 53), (1, .int (nI (k + 1))), (2, .int (nI (lf d k)))]) [0, 1, 2, 3, 4] rfl ?_
        exact ih (i + 1) _ (by omega) (by omega) (aup_lt hg rfl)
  exact loop 9 0 _ (by omega) (by omega) (fun j hj => absurd hj (Nat.not_lt_zero _))

theorem c_paysLeg {l9 : Bool} {sc : SC} {σ : SS} {d : D} (hM : MR (σ.1 54) d) (hV : Vd d) : Cs (true, l9) sc mX10_paysLegacies 0 0 [.ref 53, .int (nI (lf d 5))] σ (RI fun v σ' => ∃ f61 f60 f63 g59, v = nI (rs d) ∧ σ' = mz σ [(61, f61), (60, f60), (63, f63)] [(59, g59)] ∧ ∀ i, i < 8 → f63 i = nI (lp d i)) := by
  refine Cs.of gmX10_paysLegacies (Nat.le_of_ble_eq_true rfl) ?_
  show Ws (true, l9) sc mX10_paysLegacies 0 0 0 0 0 [(0, .ref 53), (1, .int (nI (lf d 5)))] [] (mz σ [] []) (RI fun v σ' => ∃ f61 f60 f63 g59, v = nI (rs d) ∧ σ' = mz σ [(61, f61), (60, f60), (63, f63)] [(59, g59)] ∧ ∀ i, i < 8 → f63 i = nI (lp d i))
  have hC := vC hV
  have hl := lf_le d 5
  have hnt := nts_le hV hC.2.1
  have hNe : sm (nt d) (d 0 1) = nts d := rfl
  rw [hNe] at hnt
  have hcs := lcs_le hV
  refine n_iconst 0 rfl ?_
  refine r_istore_n (lv' := [(2, .int (nI 0)), (0, .ref 53), (1, .int (nI (lf d 5)))]) rfl rfl (Nat.le_of_ble_eq_true rfl) rfl ?_
  refine n_iconst 0 rfl ?_
  refine r_istore_n (lv' := [(3, .int (nI 0)), (2, .int (nI 0)), (0, .ref 53), (1, .int (nI (lf d 5)))]) rfl rfl (Nat.le_of_ble_eq_true rfl) rfl ?_
  refine r_lv (lv' := [(3, .int (nI 0)), (2, .int (nI 0)), (0, .ref 53), (1, .int (nI (lf d 5)))]) [0, 1, 2, 3] rfl ?_
  refine m_newL (M' := [(59, (σ.2 59))]) 59 rfl ?_
  have loop : ∀ (m9 : Nat) (i : Nat) (g : Nat → Int64), 8 - i < m9 → (i ≤ 8) → (∀ j, j < i → g j = lN (lc d j)) → Ws (true, l9) sc mX10_paysLegacies 0 0 0 0 4 [(3, .int (nI i)), (2, .int (nI (sm (lc d) i))), (0, .ref 53), (1, .int (nI (lf d 5)))] [] (mz σ [] [(59, g)]) (RI fun v σ' => ∃ f61 f60 f63 g59, v = nI (rs d) ∧ σ' = mz σ [(61, f61), (60, f60), (63, f63)] [(59, g59)] ∧ ∀ i, i < 8 → f63 i = nI (lp d i)) := by
    intro m9
    induction m9 with
    | zero => intro i g hme; exact absurd hme (Nat.not_lt_zero _)
    | succ m9 ih =>
      intro i g hme hi hg
      have hD := vL hV i
      have hcl := lc_le hV i
      have ht := tb_le (tk d (d 11 i))
      refine r_iload_n rfl rfl ?_
      refine n_bipush 8 rfl (by decide) ?_
      refine n_icmp_ge (tgt := 78) rfl rfl (by omega) (by omega) (fun h1 => ?_) (fun h1 => ?_)
      · have hie : i = 8 := by omega
        subst hie
        refine r_iload_n rfl rfl ?_
        refine r_iload_n rfl rfl ?_
        suffices K : Ws (true, l9) sc mX10_paysLegacies 0 0 0 0 88 [(3, .int (nI 8)), (2, .int (nI (sm (lc d) 8))), (0, .ref 53), (1, .int (nI (lf d 5)))] [.int (nI (lu9 d))] (mz σ [] [(59, g)]) (RI fun v σ' => ∃ f61 f60 f63 g59, v = nI (rs d) ∧ σ' = mz σ [(61, f61), (60, f60), (63, f63)] [(59, g59)] ∧ ∀ i, i < 8 → f63 i = nI (lp d i)) by
          refine n_icmp_ge (tgt := 87) rfl rfl (by omega) (by omega) (fun h2 => ?_) (fun h2 => ?_)
          · refine r_iload_n rfl rfl ?_
            exact r_top (by unfold lu9; rw [Nat.min_eq_right (by omega)]) K
          · refine r_iload_n rfl rfl ?_
            refine r_goto (tgt := 88) rfl rfl ?_
            exact r_top (by unfold lu9; rw [Nat.min_eq_left (by omega)]) K
        have hlu : lu9 d ≤ lf d 5 := Nat.min_le_left _ _
        refine r_istore_n (lv' := [(3, .int (nI (lu9 d))), (2, .int (nI (sm (lc d) 8))), (0, .ref 53), (1, .int (nI (lf d 5)))]) rfl rfl (Nat.le_of_ble_eq_true rfl) rfl ?_
        refine r_aload_n rfl rfl ?_
        refine r_iload_n rfl rfl ?_
        refine n_i2l rfl (by omega) ?_
        refine n_bipush 8 rfl (by decide) ?_
        refine s_virV [.long (lN (lu9 d)), .int (nI 8)] [] rfl lkX10_261 rfl rfl rfl (c_splits_8 (by omega) hg (by omega)) rfl rfl (Nat.le_refl _) (Nat.le_refl _) rfl ?_
        rintro _ ⟨f60, f61, rfl, h60, h61⟩
        refine m_mz (L' := [(61, f61), (60, f60)]) (M' := [(59, g)]) rfl rfl ?_
        refine n_iconst 0 rfl ?_
        refine r_istore (lv' := [(4, .int (nI 0)), (3, .int (nI (lu9 d))), (2, .int (nI (sm (lc d) 8))), (0, .ref 53), (1, .int (nI (lf d 5)))]) rfl (Nat.le_of_ble_eq_true rfl) rfl ?_
        refine r_lv (lv' := [(4, .int (nI 0)), (0, .ref 53), (1, .int (nI (lf d 5))), (3, .int (nI (lu9 d)))]) [0, 3, 4, 1] rfl ?_
        refine m_newI (L' := [(61, f61), (60, f60), (63, (σ.1 63))]) 63 rfl ?_
        have loop2 : ∀ (m9_2 : Nat) (q : Nat) (f : Nat → Int32), 8 - q < m9_2 → (q ≤ 8) → (∀ j, j < q → f j = nI (lp d j)) → Ws (true, l9) sc mX10_paysLegacies 0 0 0 0 100 [(4, .int (nI q)), (0, .ref 53), (1, .int (nI (lf d 5))), (3, .int (nI (lu9 d)))] [] (mz σ [(61, f61), (60, f60), (63, f)] [(59, g)]) (RI fun v σ' => ∃ f61 f60 f63 g59, v = nI (rs d) ∧ σ' = mz σ [(61, f61), (60, f60), (63, f63)] [(59, g59)] ∧ ∀ i, i < 8 → f63 i = nI (lp d i)) := by
          intro m9_2
          induction m9_2 with
          | zero => intro q f hme; exact absurd hme (Nat.not_lt_zero _)
          | succ m9_2 ih2 =>
            intro q f hme hq hf
            refine r_iload rfl rfl ?_
            refine n_bipush 8 rfl (by decide) ?_
            refine n_icmp_ge (tgt := 127) rfl rfl (by omega) (by omega) (fun h2 => ?_) (fun h2 => ?_)
            · refine r_iload_n rfl rfl ?_
              refine r_iload_n rfl rfl ?_
              refine n_isub rfl (by omega) ?_
              exact s_ret (st := []) rfl rfl rfl (Nat.zero_le _) (Nat.zero_le _) (⟨_, rfl, f61, f60, f, g, rfl, rfl, fun i hi => hf i (by omega)⟩)
            · refine r_aload_n rfl rfl ?_
              refine s_getR (r := 63) rfl flX10_44 rfl rfl ?_
              refine r_iload rfl rfl ?_
              refine r_aload_n rfl rfl ?_
              refine s_getR (r := 60) rfl flX10_34 rfl rfl ?_
              refine r_iload rfl rfl ?_
              refine s_iald (x := nI (lp d q)) rfl rfl (by omega) (h60 q (by omega)) ?_
              refine m_iast (L' := [(61, f61), (60, f60), (63, (aup f q (nI (lp d q))))]) rfl rfl (by omega) rfl ?_
              refine n_iinc (lv' := [(4, .int (nI (q + 1))), (0, .ref 53), (1, .int (nI (lf d 5))), (3, .int (nI (lu9 d)))]) 1 rfl rfl (Nat.le_of_ble_eq_true rfl) rfl ?_
              refine r_goto (tgt := 100) rfl rfl ?_
              refine r_lv (lv' := [(4, .int (nI (q + 1))), (0, .ref 53), (1, .int (nI (lf d 5))), (3, .int (nI (lu9 d)))]) [0, 1, 2, 3] rfl ?_
              exact ih2 (q + 1) _ (by omega) (by omega) (aup_lt hf rfl)
        exact loop2 9 0 _ (by omega) (by omega) (fun j hj => absurd hj (Nat.not_lt_zero _))
      · refine r_aload_n rfl rfl ?_
        refine s_getR (r := 59) rfl flX10_31 rfl rfl ?_
        refine r_iload_n rfl rfl ?_
        refine r_iload_n rfl rfl ?_
        refine r_aload_n rfl rfl ?_
        refine s_getR (r := 54) rfl flX10_7 rfl rfl ?_
        refine n_iconst 4 rfl ?_
        refine s_iald (x := nI (d 0 4)) rfl rfl (by decide) (MRat hM 0 4 (by decide) (by decide)) ?_
        suffices K : Ws (true, l9) sc mX10_paysLegacies 0 0 0 0 61 [(3, .int (nI i)), (2, .int (nI (sm (lc d) i))), (0, .ref 53), (1, .int (nI (lf d 5)))] [.long (lN (lc d i)), .int (nI i), .ref 59] (mz σ [] [(59, g)]) (RI fun v σ' => ∃ f61 f60 f63 g59, v = nI (rs d) ∧ σ' = mz σ [(61, f61), (60, f60), (63, f63)] [(59, g59)] ∧ ∀ i, i < 8 → f63 i = nI (lp d i)) by
          refine n_icmp_ge (tgt := 60) rfl rfl (by omega) (by omega) (fun h2 => ?_) (fun h2 => ?_)
          · have e : lc d i = 0 := if_neg (by omega)
            refine n_lconst0 rfl ?_
            rw [e] at K
            exact K
          · refine r_aload_n rfl rfl ?_
            refine r_aload_n rfl rfl ?_
            refine s_getR (r := 54) rfl flX10_7 rfl rfl ?_
            refine n_bipush 106 rfl (by decide) ?_
            refine n_iconst 2 rfl ?_
            refine r_iload_n rfl rfl ?_
            refine n_imul rfl ?_
            refine n_iadd rfl ?_
            refine s_iald (x := nI (d 11 i)) rfl rfl (by omega) (Ml0 hM (by omega)) ?_
            refine s_virI [.int (nI (d 11 i))] [.int (nI i), .ref 59] rfl lkX10_265 rfl rfl rfl (c_takesShareN hM hV (by omega)) rfl rfl (Nat.le_refl _) (Nat.le_refl _) rfl (rI (e1 := nI (tb (tk d (d 11 i)))) rfl ?_)
            refine n_if_eq (tgt := 60) rfl rfl (by omega) (fun h3 => ?_) (fun h3 => ?_)
            · have e : lc d i = 0 := if_neg (fun q => by rw [tb_z h3] at q; exact absurd q.2 (by decide))
              refine n_lconst0 rfl ?_
              rw [e] at K
              exact K
            · have e : lc d i = d 12 i := if_pos ⟨h2, tb_ne h3⟩
              refine r_aload_n rfl rfl ?_
              refine s_getR (r := 54) rfl flX10_7 rfl rfl ?_
              refine n_bipush 106 rfl (by decide) ?_
              refine n_iconst 2 rfl ?_
              refine r_iload_n rfl rfl ?_
              refine n_imul rfl ?_
              refine n_iadd rfl ?_
              refine n_iconst 1 rfl ?_
              refine n_iadd rfl ?_
              refine s_iald (x := nI (d 12 i)) rfl rfl (by omega) (Ml1 hM (by omega)) ?_
              refine n_i2l rfl (by omega) ?_
              refine r_goto (tgt := 61) rfl rfl ?_
              rw [e] at K
              exact K
        refine m_last (M' := [(59, (aup g i (lN (lc d i))))]) rfl rfl (by omega) rfl ?_
        refine r_iload_n rfl rfl ?_
        refine r_aload_n rfl rfl ?_
        refine s_getR (r := 59) rfl flX10_31 rfl rfl ?_
        refine r_iload_n rfl rfl ?_
        refine s_lald (x := lN (lc d i)) rfl rfl (by omega) (aup_s _ _ _) ?_
        refine n_l2i rfl ?_
        refine n_iadd rfl ?_
        refine r_istore_n (lv' := [(2, .int (nI ((sm (lc d) i) + (lc d i)))), (3, .int (nI i)), (0, .ref 53), (1, .int (nI (lf d 5)))]) rfl rfl (Nat.le_of_ble_eq_true rfl) rfl ?_
        refine n_iinc (lv' := [(3, .int (nI (i + 1))), (2, .int (nI ((sm (lc d) i) + (lc d i)))), (0, .ref 53), (1, .int (nI (lf d 5)))]) 1 rfl rfl (Nat.le_of_ble_eq_true rfl) rfl ?_
        refine r_goto (tgt := 4) rfl rfl ?_
        refine r_lv (lv' := [(3, .int (nI (i + 1))), (2, .int (nI ((sm (lc d) i) + (lc d i)))), (0, .ref 53), (1, .int (nI (lf d 5)))]) [0, 1, 2, 3] rfl ?_
        exact ih (i + 1) _ (by omega) (by omega) (aup_lt hg rfl)
  exact loop 9 0 _ (by omega) (by omega) (fun j hj => absurd hj (Nat.not_lt_zero _))

theorem c_laysWeights {l9 : Bool} {sc : SC} {σ : SS} {d : D} (hM : MR (σ.1 54) d) (hV : Vd d) (hH : ∀ p, p < d 0 0 → σ.1 66 p = nI (tb (he d p))) (hD : ∀ p, p < d 0 0 → σ.1 68 p = nI (dv d p)) : Cs (true, l9) sc mX10_laysWeights 0 0 [.ref 53] σ (RV fun σ' => ∃ g, σ' = mz σ [] [(69, g)] ∧ ∀ p, p < d 0 0 → g p = lN (wt d p)) := by
  refine Cs.of gmX10_laysWeights (Nat.le_of_ble_eq_true rfl) ?_
  show Ws (true, l9) sc mX10_laysWeights 0 0 0 0 0 [(0, .ref 53)] [] (mz σ [] []) (RV fun σ' => ∃ g, σ' = mz σ [] [(69, g)] ∧ ∀ p, p < d 0 0 → g p = lN (wt d p))
  have hC := vC hV
  refine n_lconst1 rfl ?_
  refine r_lstore_n (lv' := [(1, .long (lN 1)), (0, .ref 53)]) rfl rfl (Nat.le_of_ble_eq_true rfl) rfl ?_
  refine n_iconst 0 rfl ?_
  refine r_istore_n (lv' := [(3, .int (nI 0)), (1, .long (lN 1)), (0, .ref 53)]) rfl rfl (Nat.le_of_ble_eq_true rfl) rfl ?_
  refine r_lv (lv' := [(3, .int (nI 0)), (1, .long (lN 1)), (0, .ref 53)]) [0, 1, 2] rfl ?_
  have loop : ∀ (m9 : Nat) (i : Nat) , d 0 0 - i < m9 → (i ≤ d 0 0) → Ws (true, l9) sc mX10_laysWeights 0 0 0 0 4 [(3, .int (nI i)), (1, .long (lN (ml d i))), (0, .ref 53)] [] (mz σ [] []) (RV fun σ' => ∃ g, σ' = mz σ [] [(69, g)] ∧ ∀ p, p < d 0 0 → g p = lN (wt d p)) := by
    intro m9
    induction m9 with
    | zero => intro i  hme; exact absurd hme (Nat.not_lt_zero _)
    | succ m9 ih =>
      intro i  hme hi
      have ht := tb_le (he d i)
      have hdv := dv_le hV i
      have hml := ml_le hV i
      have hmp := (ml_P hV i).1
      refine r_iload_n rfl rfl ?_
      refine r_aload_n rfl rfl ?_
      refine s_getR (r := 54) rfl flX10_7 rfl rfl ?_
      refine n_iconst 0 rfl ?_
      refine s_iald (x := nI (d 0 0)) rfl rfl (by decide) (MRat hM 0 0 (by decide) (by decide)) ?_
      refine n_icmp_ge (tgt := 55) rfl rfl (by omega) (by omega) (fun h1 => ?_) (fun h1 => ?_)
      · have hie : i = d 0 0 := by omega
        rw [hie]
        refine n_iconst 0 rfl ?_
        refine r_istore_n (lv' := [(3, .int (nI 0)), (1, .long (lN (ml d (d 0 0)))), (0, .ref 53)]) rfl rfl (Nat.le_of_ble_eq_true rfl) rfl ?_
        refine r_lv (lv' := [(3, .int (nI 0)), (1, .long (lN (ml d (d 0 0)))), (0, .ref 53)]) [0, 1, 2] rfl ?_
        refine m_newL (M' := [(69, (σ.2 69))]) 69 rfl ?_
        have loop2 : ∀ (m9_2 : Nat) (k : Nat) (g : Nat → Int64), d 0 0 - k < m9_2 → (k ≤ d 0 0) → (∀ j, j < k → g j = lN (wt d j)) → Ws (true, l9) sc mX10_laysWeights 0 0 0 0 57 [(3, .int (nI k)), (1, .long (lN (ml d (d 0 0)))), (0, .ref 53)] [] (mz σ [] [(69, g)]) (RV fun σ' => ∃ g, σ' = mz σ [] [(69, g)] ∧ ∀ p, p < d 0 0 → g p = lN (wt d p)) := by
          intro m9_2
          induction m9_2 with
          | zero => intro k g hme; exact absurd hme (Nat.not_lt_zero _)
          | succ m9_2 ih2 =>
            intro k g hme hk hg
            have ht2 := tb_le (he d k)
            have hdv2 := dv_le hV k
            have hml2 := ml_le hV (d 0 0)
            refine r_iload_n rfl rfl ?_
            refine r_aload_n rfl rfl ?_
            refine s_getR (r := 54) rfl flX10_7 rfl rfl ?_
            refine n_iconst 0 rfl ?_
            refine s_iald (x := nI (d 0 0)) rfl rfl (by decide) (MRat hM 0 0 (by decide) (by decide)) ?_
            refine n_icmp_ge (tgt := 101) rfl rfl (by omega) (by omega) (fun h2 => ?_) (fun h2 => ?_)
            · exact s_vret (st := []) rfl rfl (Nat.zero_le _) (Nat.zero_le _) (⟨rfl, g, rfl, fun j hj => hg j (by omega)⟩)
            · refine r_aload_n rfl rfl ?_
              refine s_getR (r := 69) rfl flX10_62 rfl rfl ?_
              refine r_iload_n rfl rfl ?_
              refine r_aload_n rfl rfl ?_
              refine s_getR (r := 66) rfl flX10_53 rfl rfl ?_
              refine r_iload_n rfl rfl ?_
              refine s_zald (x := nI (tb (he d k))) rfl rfl (by omega) (hH _ (by omega)) ?_
              suffices K : Ws (true, l9) sc mX10_laysWeights 0 0 0 0 94 [(3, .int (nI k)), (1, .long (lN (ml d (d 0 0)))), (0, .ref 53)] [.long (lN (wt d k)), .int (nI k), .ref 69] (mz σ [] [(69, g)]) (RV fun σ' => ∃ g, σ' = mz σ [] [(69, g)] ∧ ∀ p, p < d 0 0 → g p = lN (wt d p)) by
                refine n_if_eq (tgt := 93) rfl rfl (by omega) (fun h3 => ?_) (fun h3 => ?_)
                · have e : wt d k = 0 := if_neg (by rw [tb_z h3]; decide)
                  refine n_lconst0 rfl ?_
                  rw [e] at K
                  exact K
                · have e : wt d k = ml d (d 0 0) / dv d k := if_pos (tb_ne h3)
                  have hL := (he_L hV (tb_ne h3)).2.1
                  refine r_lload_n rfl rfl ?_
                  refine r_aload_n rfl rfl ?_
                  refine s_getR (r := 68) rfl flX10_59 rfl rfl ?_
                  refine r_iload_n rfl rfl ?_
                  refine s_iald (x := nI (dv d k)) rfl rfl (by omega) (hD _ (by omega)) ?_
                  refine n_i2l rfl (by omega) ?_
                  refine n_ldiv rfl (by omega) (by omega) (by omega) ?_
                  refine r_goto (tgt := 94) rfl rfl ?_
                  rw [e] at K
                  exact K
              refine m_last (M' := [(69, (aup g k (lN (wt d k))))]) rfl rfl (by omega) rfl ?_
              refine n_iinc (lv' := [(3, .int (nI (k + 1))), (1, .long (lN (ml d (d 0 0)))), (0, .ref 53)]) 1 rfl rfl (Nat.le_of_ble_eq_true rfl) rfl ?_
              refine r_goto (tgt := 57) rfl rfl ?_
              refine r_lv (lv' := [(3, .int (nI (k + 1))), (1, .long (lN (ml d (d 0 0)))), (0, .ref 53)]) [0, 1, 2] rfl ?_
              exact ih2 (k + 1) _ (by omega) (by omega) (aup_lt hg rfl)
        exact loop2 (d 0 0 + 1) 0 _ (by omega) (by omega) (fun j hj => absurd hj (Nat.not_lt_zero _))
      · refine r_aload_n rfl rfl ?_
        refine s_getR (r := 66) rfl flX10_53 rfl rfl ?_
        refine r_iload_n rfl rfl ?_
        refine s_zald (x := nI (tb (he d i))) rfl rfl (by omega) (hH _ (by omega)) ?_
        suffices K : Ws (true, l9) sc mX10_laysWeights 0 0 0 0 48 [(3, .int (nI i)), (1, .long (lN (ml d i))), (0, .ref 53)] [.long (lN (ml d (i + 1)))] (mz σ [] []) (RV fun σ' => ∃ g, σ' = mz σ [] [(69, g)] ∧ ∀ p, p < d 0 0 → g p = lN (wt d p)) by
          refine n_if_eq (tgt := 47) rfl rfl (by omega) (fun h3 => ?_) (fun h3 => ?_)
          · have e : ml d (i + 1) = ml d i := if_neg (by rw [tb_z h3]; decide)
            refine r_lload_n rfl rfl ?_
            rw [e] at K
            exact K
          · have e : ml d (i + 1) = ml d i / Nat.gcd (ml d i) (dv d i) * dv d i := if_pos (tb_ne h3)
            have hL := (he_L hV (tb_ne h3)).2.1
            have hgp := Nat.gcd_pos_of_pos_left (dv d i) hmp
            have hgl := Nat.gcd_le_left (dv d i) hmp
            refine r_lload_n rfl rfl ?_
            refine r_lload_n rfl rfl ?_
            refine r_aload_n rfl rfl ?_
            refine s_getR (r := 68) rfl flX10_59 rfl rfl ?_
            refine r_iload_n rfl rfl ?_
            refine s_iald (x := nI (dv d i)) rfl rfl (by omega) (hD _ (by omega)) ?_
            refine n_i2l rfl (by omega) ?_
            refine s_staL [.long (lN (ml d i)), .long (lN (dv d i))] [.long (lN (ml d i))] rfl lkX10_277 (c_common (by omega) (by omega)) rfl rfl (Nat.le_refl _) (Nat.le_refl _) rfl (rL (e1 := lN (Nat.gcd (ml d i) (dv d i))) rfl ?_)
            refine n_ldiv rfl (by omega) (by omega) (by omega) ?_
            refine r_aload_n rfl rfl ?_
            refine s_getR (r := 68) rfl flX10_59 rfl rfl ?_
            refine r_iload_n rfl rfl ?_
            refine s_iald (x := nI (dv d i)) rfl rfl (by omega) (hD _ (by omega)) ?_
            refine n_i2l rfl (by omega) ?_
            refine n_lmul rfl ?_
            refine r_goto (tgt := 48) rfl rfl ?_
            rw [e] at K
            exact K
        refine r_lstore_n (lv' := [(1, .long (lN (ml d (i + 1)))), (3, .int (nI i)), (0, .ref 53)]) rfl rfl (Nat.le_of_ble_eq_true rfl) rfl ?_
        refine n_iinc (lv' := [(3, .int (nI (i + 1))), (1, .long (lN (ml d (i + 1)))), (0, .ref 53)]) 1 rfl rfl (Nat.le_of_ble_eq_true rfl) rfl ?_
        refine r_goto (tgt := 4) rfl rfl ?_
        refine r_lv (lv' := [(3, .int (nI (i + 1))), (1, .long (lN (ml d (i + 1)))), (0, .ref 53)]) [0, 1, 2] rfl ?_
        exact ih (i + 1) (by omega) (by omega)
  exact loop (d 0 0 + 1) 0 (by omega) (by omega)

theorem c_laysHeirs {l9 : Bool} {sc : SC} {σ : SS} {d : D} (hM : MR (σ.1 54) d) (hV : Vd d) : Cs (true, l9) sc mX10_laysHeirs 0 0 [.ref 53] σ (RV fun σ' => ∃ f65 f66 f68 g69, σ' = mz σ [(65, f65), (68, f68), (66, f66)] [(69, g69)] ∧ (∀ p, p < d 0 0 → f65 p = nI (tb (isL d p))) ∧ (∀ p, p < d 0 0 → f66 p = nI (tb (he d p))) ∧ (∀ p, p < d 0 0 → f68 p = nI (dv d p)) ∧ ∀ p, p < d 0 0 → g69 p = lN (wt d p)) := by
  refine Cs.of gmX10_laysHeirs (Nat.le_of_ble_eq_true rfl) ?_
  show Ws (true, l9) sc mX10_laysHeirs 0 0 0 0 0 [(0, .ref 53)] [] (mz σ [] []) (RV fun σ' => ∃ f65 f66 f68 g69, σ' = mz σ [(65, f65), (68, f68), (66, f66)] [(69, g69)] ∧ (∀ p, p < d 0 0 → f65 p = nI (tb (isL d p))) ∧ (∀ p, p < d 0 0 → f66 p = nI (tb (he d p))) ∧ (∀ p, p < d 0 0 → f68 p = nI (dv d p)) ∧ ∀ p, p < d 0 0 → g69 p = lN (wt d p))
  have hC := vC hV
  refine r_aload_n rfl rfl ?_
  refine s_getR (r := 54) rfl flX10_7 rfl rfl ?_
  refine n_iconst 0 rfl ?_
  refine s_iald (x := nI (d 0 0)) rfl rfl (by decide) (MRat hM 0 0 (by decide) (by decide)) ?_
  refine r_istore_n (lv' := [(1, .int (nI (d 0 0))), (0, .ref 53)]) rfl rfl (Nat.le_of_ble_eq_true rfl) rfl ?_
  refine n_iconst 0 rfl ?_
  refine r_istore_n (lv' := [(2, .int (nI 0)), (1, .int (nI (d 0 0))), (0, .ref 53)]) rfl rfl (Nat.le_of_ble_eq_true rfl) rfl ?_
  refine r_lv (lv' := [(2, .int (nI 0)), (0, .ref 53), (1, .int (nI (d 0 0)))]) [0, 2, 1] rfl ?_
  refine m_newI (L' := [(65, (σ.1 65))]) 65 rfl ?_
  have loop : ∀ (m9 : Nat) (i : Nat) (f : Nat → Int32), d 0 0 - i < m9 → (i ≤ d 0 0) → (∀ j, j < i → f j = nI 0) → Ws (true, l9) sc mX10_laysHeirs 0 0 0 0 9 [(2, .int (nI i)), (0, .ref 53), (1, .int (nI (d 0 0)))] [] (mz σ [(65, f)] []) (RV fun σ' => ∃ f65 f66 f68 g69, σ' = mz σ [(65, f65), (68, f68), (66, f66)] [(69, g69)] ∧ (∀ p, p < d 0 0 → f65 p = nI (tb (isL d p))) ∧ (∀ p, p < d 0 0 → f66 p = nI (tb (he d p))) ∧ (∀ p, p < d 0 0 → f68 p = nI (dv d p)) ∧ ∀ p, p < d 0 0 → g69 p = lN (wt d p)) := by
    intro m9
    induction m9 with
    | zero => intro i f hme; exact absurd hme (Nat.not_lt_zero _)
    | succ m9 ih =>
      intro i f hme hi hf
      refine r_iload_n rfl rfl ?_
      refine r_iload_n rfl rfl ?_
      refine n_icmp_ge (tgt := 27) rfl rfl (by omega) (by omega) (fun h1 => ?_) (fun h1 => ?_)
      · refine r_iload_n rfl rfl ?_
        refine n_iconst 1 rfl ?_
        refine r_isub rfl ?_
        refine r_top (y := oI (d 0 0)) rfl ?_
        refine r_istore_n (lv' := [(2, .int (oI (d 0 0))), (0, .ref 53), (1, .int (nI (d 0 0)))]) rfl rfl (Nat.le_of_ble_eq_true rfl) rfl ?_
        refine r_lv (lv' := [(2, .int (oI (d 0 0))), (0, .ref 53), (1, .int (nI (d 0 0)))]) [0, 1, 2] rfl ?_
        have loop2 : ∀ (m9_2 : Nat) (q : Nat) (f2 : Nat → Int32), q < m9_2 → (q ≤ d 0 0) → (∀ x, x < d 0 0 → f2 x = nI (tb (lst d (d 0 0 - q) x))) → Ws (true, l9) sc mX10_laysHeirs 0 0 0 0 31 [(2, .int (oI q)), (0, .ref 53), (1, .int (nI (d 0 0)))] [] (mz σ [(65, f2)] []) (RV fun σ' => ∃ f65 f66 f68 g69, σ' = mz σ [(65, f65), (68, f68), (66, f66)] [(69, g69)] ∧ (∀ p, p < d 0 0 → f65 p = nI (tb (isL d p))) ∧ (∀ p, p < d 0 0 → f66 p = nI (tb (he d p))) ∧ (∀ p, p < d 0 0 → f68 p = nI (dv d p)) ∧ ∀ p, p < d 0 0 → g69 p = lN (wt d p)) := by
          intro m9_2
          induction m9_2 with
          | zero => intro q f2 hme; exact absurd hme (Nat.not_lt_zero _)
          | succ m9_2 ih2 =>
            intro q f2 hme hq h2
            cases q with
            | zero =>
              rw [oI_0]
              have hL9 : ∀ x, x < d 0 0 → f2 x = nI (tb (isL d x)) := h2
              refine r_iload_n rfl rfl ?_
              refine r_if_lt (tgt := 86) rfl rfl (fun _ => ?_) (fun hq => absurd hq (fun z => z (by decide)))
              refine n_iconst 0 rfl ?_
              refine r_istore_n (lv' := [(2, .int (nI 0)), (0, .ref 53), (1, .int (nI (d 0 0)))]) rfl rfl (Nat.le_of_ble_eq_true rfl) rfl ?_
              refine r_lv (lv' := [(2, .int (nI 0)), (0, .ref 53), (1, .int (nI (d 0 0)))]) [0, 1, 2] rfl ?_
              refine m_newI (L' := [(65, f2), (68, (σ.1 68))]) 68 rfl ?_
              refine m_newI (L' := [(65, f2), (68, (σ.1 68)), (66, (σ.1 66))]) 66 rfl ?_
              have loop3 : ∀ (m9_3 : Nat) (k : Nat) (f3 f4 : Nat → Int32), d 0 0 - k < m9_3 → (k ≤ d 0 0) → (∀ x, x < k → f3 x = nI (dv d x)) → (∀ x, x < k → f4 x = nI (tb (he d x))) → Ws (true, l9) sc mX10_laysHeirs 0 0 0 0 88 [(2, .int (nI k)), (0, .ref 53), (1, .int (nI (d 0 0)))] [] (mz σ [(65, f2), (68, f3), (66, f4)] []) (RV fun σ' => ∃ f65 f66 f68 g69, σ' = mz σ [(65, f65), (68, f68), (66, f66)] [(69, g69)] ∧ (∀ p, p < d 0 0 → f65 p = nI (tb (isL d p))) ∧ (∀ p, p < d 0 0 → f66 p = nI (tb (he d p))) ∧ (∀ p, p < d 0 0 → f68 p = nI (dv d p)) ∧ ∀ p, p < d 0 0 → g69 p = lN (wt d p)) := by
                intro m9_3
                induction m9_3 with
                | zero => intro k f3 f4 hme; exact absurd hme (Nat.not_lt_zero _)
                | succ m9_3 ih3 =>
                  intro k f3 f4 hme hk h3 h4
                  have hcm := tb_le (cm d k)
                  have htk := tb_le (tk d k)
                  have hLb := tb_le (isL d k)
                  have hPk := vP hV k
                  refine r_iload_n rfl rfl ?_
                  refine r_iload_n rfl rfl ?_
                  refine n_icmp_ge (tgt := 205) rfl rfl (by omega) (by omega) (fun h30 => ?_) (fun h30 => ?_)
                  · have hke : k = d 0 0 := by omega
                    rw [hke] at h3 h4
                    refine r_aload_n rfl rfl ?_
                    refine s_virV [] [] rfl lkX10_274 rfl rfl rfl (c_laysWeights hM hV h4 h3) rfl rfl (Nat.le_refl _) (Nat.le_refl _) rfl ?_
                    rintro _ ⟨g69, rfl, h69⟩
                    refine m_mz (L' := [(65, f2), (68, f3), (66, f4)]) (M' := [(69, g69)]) rfl rfl ?_
                    exact s_vret (st := []) rfl rfl (Nat.zero_le _) (Nat.zero_le _) (⟨rfl, f2, f4, f3, g69, rfl, hL9, h4, h3, h69⟩)
                  · have hQk := vQ hV k (by omega)
                    have hdv := cm_dv hV (p := k) (by omega)
                    have hhe := cm_he hV (p := k) (by omega)
                    refine r_aload_n rfl rfl ?_
                    refine r_iload_n rfl rfl ?_
                    refine n_iconst 0 rfl ?_
                    refine s_virI [.int (nI k), .int (nI 0)] [] rfl lkX10_245 rfl rfl rfl (c_of (x := oI (d 1 k)) (by omega) (by omega) (M0 hM (by omega))) rfl rfl (Nat.le_refl _) (Nat.le_refl _) rfl (rI (e1 := oI (d 1 k)) rfl ?_)
                    refine r_istore_n (lv' := [(3, .int (oI (d 1 k))), (2, .int (nI k)), (0, .ref 53), (1, .int (nI (d 0 0)))]) rfl rfl (Nat.le_of_ble_eq_true rfl) rfl ?_
                    refine r_aload_n rfl rfl ?_
                    refine s_getR (r := 65) rfl flX10_50 rfl rfl ?_
                    refine r_iload_n rfl rfl ?_
                    refine s_zald (x := nI (tb (isL d k))) rfl rfl (by omega) (hL9 k (by omega)) ?_
                    suffices K : Ws (true, l9) sc mX10_laysHeirs 0 0 0 0 137 [(3, .int (oI (d 1 k))), (2, .int (nI k)), (0, .ref 53), (1, .int (nI (d 0 0)))] [.int (nI (tb (cm d k)))] (mz σ [(65, f2), (68, f3), (66, f4)] []) (RV fun σ' => ∃ f65 f66 f68 g69, σ' = mz σ [(65, f65), (68, f68), (66, f66)] [(69, g69)] ∧ (∀ p, p < d 0 0 → f65 p = nI (tb (isL d p))) ∧ (∀ p, p < d 0 0 → f66 p = nI (tb (he d p))) ∧ (∀ p, p < d 0 0 → f68 p = nI (dv d p)) ∧ ∀ p, p < d 0 0 → g69 p = lN (wt d p)) by
                      refine n_if_eq (tgt := 136) rfl rfl (by omega) (fun h5 => ?_) (fun h5 => ?_)
                      · refine n_iconst 0 rfl ?_
                        exact r_top (by unfold cm; rw [tb_z h5]; rfl) K
                      · refine r_iload_n rfl rfl ?_
                        refine n_m1 rfl ?_
                        refine r_icmp_eq (tgt := 132) rfl rfl (fun h6 => ?_) (fun h6 => ?_)
                        · refine n_iconst 1 rfl ?_
                          refine r_goto (tgt := 137) rfl rfl ?_
                          exact r_top (by unfold cm; rw [tb_ne h5, noI (vP hV k) h6]; rfl) K
                        · obtain ⟨u, hu⟩ : ∃ u, d 1 k = u + 1 := ⟨d 1 k - 1, by have := noI3 h6; omega⟩
                          have hdu := dv_le hV u
                          have hhu := tb_le (he d u)
                          have hcq : cm d k = (isL d k && (decide (0 < dv d u) && !(he d u))) := by unfold cm; rw [hu, Nat.add_sub_cancel]; rfl
                          have hou : oI (d 1 k) = nI u := by rw [hu, oI_s]
                          rw [hou]
                          rw [hou] at K
                          refine r_aload_n rfl rfl ?_
                          refine s_getR (r := 68) rfl flX10_59 rfl rfl ?_
                          refine r_iload_n rfl rfl ?_
                          refine s_iald (x := nI (dv d u)) rfl rfl (by omega) (h3 u (by omega)) ?_
                          refine n_if_le (tgt := 136) rfl rfl (by omega) (fun h7 => ?_) (fun h7 => ?_)
                          · refine n_iconst 0 rfl ?_
                            exact r_top (by rw [hcq, h7]; simp [tb]) K
                          · refine r_aload_n rfl rfl ?_
                            refine s_getR (r := 66) rfl flX10_53 rfl rfl ?_
                            refine r_iload_n rfl rfl ?_
                            refine s_zald (x := nI (tb (he d u))) rfl rfl (by omega) (h4 u (by omega)) ?_
                            refine n_if_ne (tgt := 136) rfl rfl (by omega) (fun h8 => ?_) (fun h8 => ?_)
                            · refine n_iconst 0 rfl ?_
                              exact r_top (by rw [hcq, tb_ne h8]; simp [tb]) K
                            · refine n_iconst 1 rfl ?_
                              refine r_goto (tgt := 137) rfl rfl ?_
                              exact r_top (by rw [hcq, tb_ne h5, tb_z h8, decide_eq_true h7]; rfl) K
                    refine r_istore (lv' := [(4, .int (nI (tb (cm d k)))), (3, .int (oI (d 1 k))), (2, .int (nI k)), (0, .ref 53), (1, .int (nI (d 0 0)))]) rfl (Nat.le_of_ble_eq_true rfl) rfl ?_
                    refine r_aload_n rfl rfl ?_
                    refine s_getR (r := 68) rfl flX10_59 rfl rfl ?_
                    refine r_iload_n rfl rfl ?_
                    refine r_iload rfl rfl ?_
                    suffices K : Ws (true, l9) sc mX10_laysHeirs 0 0 0 0 174 [(4, .int (nI (tb (cm d k)))), (3, .int (oI (d 1 k))), (2, .int (nI k)), (0, .ref 53), (1, .int (nI (d 0 0)))] [.int (nI (dv d k)), .int (nI k), .ref 68] (mz σ [(65, f2), (68, f3), (66, f4)] []) (RV fun σ' => ∃ f65 f66 f68 g69, σ' = mz σ [(65, f65), (68, f68), (66, f66)] [(69, g69)] ∧ (∀ p, p < d 0 0 → f65 p = nI (tb (isL d p))) ∧ (∀ p, p < d 0 0 → f66 p = nI (tb (he d p))) ∧ (∀ p, p < d 0 0 → f68 p = nI (dv d p)) ∧ ∀ p, p < d 0 0 → g69 p = lN (wt d p)) by
                      refine n_if_eq (tgt := 173) rfl rfl (by omega) (fun h9 => ?_) (fun h9 => ?_)
                      · refine n_iconst 0 rfl ?_
                        exact r_top (by rw [hdv, tb_z h9]; rfl) K
                      · have hcd : dv d k = (if d 1 k = 0 then 1 else dv d (d 1 k - 1)) * cu d (d 1 k) := by rw [hdv, if_pos (tb_ne h9)]
                        refine r_iload_n rfl rfl ?_
                        refine n_m1 rfl ?_
                        suffices K2 : Ws (true, l9) sc mX10_laysHeirs 0 0 0 0 164 [(4, .int (nI (tb (cm d k)))), (3, .int (oI (d 1 k))), (2, .int (nI k)), (0, .ref 53), (1, .int (nI (d 0 0)))] [.int (nI (if d 1 k = 0 then 1 else dv d (d 1 k - 1))), .int (nI k), .ref 68] (mz σ [(65, f2), (68, f3), (66, f4)] []) (RV fun σ' => ∃ f65 f66 f68 g69, σ' = mz σ [(65, f65), (68, f68), (66, f66)] [(69, g69)] ∧ (∀ p, p < d 0 0 → f65 p = nI (tb (isL d p))) ∧ (∀ p, p < d 0 0 → f66 p = nI (tb (he d p))) ∧ (∀ p, p < d 0 0 → f68 p = nI (dv d p)) ∧ ∀ p, p < d 0 0 → g69 p = lN (wt d p)) by
                          refine r_icmp_ne (tgt := 158) rfl rfl (fun h10 => ?_) (fun h10 => ?_)
                          · obtain ⟨u, hu⟩ : ∃ u, d 1 k = u + 1 := ⟨d 1 k - 1, by have := noI3 h10; omega⟩
                            have hou : oI (d 1 k) = nI u := by rw [hu, oI_s]
                            rw [hou]
                            rw [hou] at K2
                            refine r_aload_n rfl rfl ?_
                            refine s_getR (r := 68) rfl flX10_59 rfl rfl ?_
                            refine r_iload_n rfl rfl ?_
                            refine s_iald (x := nI (dv d u)) rfl rfl (by omega) (h3 u (by omega)) ?_
                            exact r_top (by rw [hu, if_neg (Nat.succ_ne_zero u), Nat.add_sub_cancel]) K2
                          · refine n_iconst 1 rfl ?_
                            refine r_goto (tgt := 164) rfl rfl ?_
                            exact r_top (by rw [noI (vP hV k) h10]; rfl) K2
                        refine r_aload_n rfl rfl ?_
                        refine r_iload_n rfl rfl ?_
                        refine s_virI [.int (oI (d 1 k))] [.int (nI (if d 1 k = 0 then 1 else dv d (d 1 k - 1))), .int (nI k), .ref 68] rfl lkX10_271 rfl rfl rfl (c_linesUnder hM hV hPk hL9 (fun x hx => lst_sp hx _)) rfl rfl (Nat.le_refl _) (Nat.le_refl _) rfl (rI (e1 := nI (cu d (d 1 k))) rfl ?_)
                        refine n_imul rfl ?_
                        refine r_goto (tgt := 174) rfl rfl ?_
                        exact r_top (by rw [hcd]) K
                    refine m_iast (L' := [(65, f2), (68, (aup f3 k (nI (dv d k)))), (66, f4)]) rfl rfl (by omega) rfl ?_
                    refine r_aload_n rfl rfl ?_
                    refine s_getR (r := 66) rfl flX10_53 rfl rfl ?_
                    refine r_iload_n rfl rfl ?_
                    refine r_iload rfl rfl ?_
                    suffices K : Ws (true, l9) sc mX10_laysHeirs 0 0 0 0 198 [(4, .int (nI (tb (cm d k)))), (3, .int (oI (d 1 k))), (2, .int (nI k)), (0, .ref 53), (1, .int (nI (d 0 0)))] [.int (nI (tb (he d k))), .int (nI k), .ref 66] (mz σ [(65, f2), (68, (aup f3 k (nI (dv d k)))), (66, f4)] []) (RV fun σ' => ∃ f65 f66 f68 g69, σ' = mz σ [(65, f65), (68, f68), (66, f66)] [(69, g69)] ∧ (∀ p, p < d 0 0 → f65 p = nI (tb (isL d p))) ∧ (∀ p, p < d 0 0 → f66 p = nI (tb (he d p))) ∧ (∀ p, p < d 0 0 → f68 p = nI (dv d p)) ∧ ∀ p, p < d 0 0 → g69 p = lN (wt d p)) by
                      refine n_if_eq (tgt := 197) rfl rfl (by omega) (fun h11 => ?_) (fun h11 => ?_)
                      · refine n_iconst 0 rfl ?_
                        exact r_top (by rw [hhe, tb_z h11]; rfl) K
                      · refine r_aload_n rfl rfl ?_
                        refine r_iload_n rfl rfl ?_
                        refine s_virI [.int (nI k)] [.int (nI k), .ref 66] rfl lkX10_265 rfl rfl rfl (c_takesShareN hM hV (by omega)) rfl rfl (Nat.le_refl _) (Nat.le_refl _) rfl (rI (e1 := nI (tb (tk d k))) rfl ?_)
                        refine n_if_eq (tgt := 197) rfl rfl (by omega) (fun h12 => ?_) (fun h12 => ?_)
                        · refine n_iconst 0 rfl ?_
                          exact r_top (by rw [hhe, tb_z h12, Bool.and_false]; rfl) K
                        · refine n_iconst 1 rfl ?_
                          refine r_goto (tgt := 198) rfl rfl ?_
                          exact r_top (by rw [hhe, tb_ne h11, tb_ne h12]; rfl) K
                    refine m_zastN (L' := [(65, f2), (68, (aup f3 k (nI (dv d k)))), (66, (aup f4 k (nI (tb (he d k)))))]) rfl rfl (by omega) (nar_b _) rfl ?_
                    refine n_iinc (lv' := [(2, .int (nI (k + 1))), (4, .int (nI (tb (cm d k)))), (3, .int (oI (d 1 k))), (0, .ref 53), (1, .int (nI (d 0 0)))]) 1 rfl rfl (Nat.le_of_ble_eq_true rfl) rfl ?_
                    refine r_goto (tgt := 88) rfl rfl ?_
                    refine r_lv (lv' := [(2, .int (nI (k + 1))), (0, .ref 53), (1, .int (nI (d 0 0)))]) [0, 3, 4] rfl ?_
                    exact ih3 (k + 1) _ _ (by omega) (by omega) (aup_lt h3 rfl) (aup_lt h4 rfl)
              exact loop3 (d 0 0 + 1) 0 _ _ (by omega) (by omega) (fun j hj => absurd hj (Nat.not_lt_zero _)) (fun j hj => absurd hj (Nat.not_lt_zero _))
            | succ q =>
              rw [oI_s]
              have hls := lst_s (d := d) (q := q) (by omega)
              have hlu := lu_le (d := d) (lst d (d 0 0 - (q + 1))) (q + 1)
              have htk := tb_le (tk d q)
              have hgo := tb_le (go d q)
              refine r_iload_n rfl rfl ?_
              refine n_if_lt (tgt := 86) rfl rfl (by omega) (fun hq => hq.elim) (fun _ => ?_)
              refine r_aload_n rfl rfl ?_
              refine s_getR (r := 65) rfl flX10_50 rfl rfl ?_
              refine r_iload_n rfl rfl ?_
              refine r_iload_n rfl rfl ?_
              refine r_aload_n rfl rfl ?_
              refine s_getR (r := 54) rfl flX10_7 rfl rfl ?_
              refine n_iconst 5 rfl ?_
              refine s_iald (x := oI (d 0 5)) rfl rfl (by decide) (MRat hM 0 5 (by decide) (by decide)) ?_
              suffices K : Ws (true, l9) sc mX10_laysHeirs 0 0 0 0 79 [(2, .int (nI q)), (0, .ref 53), (1, .int (nI (d 0 0)))] [.int (nI (tb (lnF d (lst d (d 0 0 - (q + 1))) q))), .int (nI q), .ref 65] (mz σ [(65, f2)] []) (RV fun σ' => ∃ f65 f66 f68 g69, σ' = mz σ [(65, f65), (68, f68), (66, f66)] [(69, g69)] ∧ (∀ p, p < d 0 0 → f65 p = nI (tb (isL d p))) ∧ (∀ p, p < d 0 0 → f66 p = nI (tb (he d p))) ∧ (∀ p, p < d 0 0 → f68 p = nI (dv d p)) ∧ ∀ p, p < d 0 0 → g69 p = lN (wt d p)) by
                refine r_icmp_eq (tgt := 78) rfl rfl (fun h5 => ?_) (fun h5 => ?_)
                · refine n_iconst 0 rfl ?_
                  exact r_top (by rw [lnF_no (Or.inl ((oI_q (by omega) (by omega)).mp h5))]; rfl) K
                · have hs : ¬ d 0 5 = q + 1 := fun z => h5 ((oI_q (by omega) (by omega)).mpr z)
                  refine r_aload_n rfl rfl ?_
                  refine r_iload_n rfl rfl ?_
                  refine s_virI [.int (nI q)] [.int (nI q), .ref 65] rfl lkX10_265 rfl rfl rfl (c_takesShareN hM hV (by omega)) rfl rfl (Nat.le_refl _) (Nat.le_refl _) rfl (rI (e1 := nI (tb (tk d q))) rfl ?_)
                  refine n_if_ne (tgt := 74) rfl rfl (by omega) (fun h6 => ?_) (fun h6 => ?_)
                  · refine n_iconst 1 rfl ?_
                    refine r_goto (tgt := 79) rfl rfl ?_
                    exact r_top (by rw [lnF_yes hs (by rw [tb_ne h6]; rfl)]; rfl) K
                  · refine r_aload_n rfl rfl ?_
                    refine r_iload_n rfl rfl ?_
                    refine s_virI [.int (nI q)] [.int (nI q), .ref 65] rfl lkX10_268 rfl rfl rfl (c_goesOn hM hV (by omega)) rfl rfl (Nat.le_refl _) (Nat.le_refl _) rfl (rI (e1 := nI (tb (go d q))) rfl ?_)
                    refine n_if_eq (tgt := 78) rfl rfl (by omega) (fun h7 => ?_) (fun h7 => ?_)
                    · refine n_iconst 0 rfl ?_
                      exact r_top (by rw [lnF_no (Or.inr (by rw [tb_z h6, tb_z h7]; rfl))]; rfl) K
                    · refine r_aload_n rfl rfl ?_
                      refine r_iload_n rfl rfl ?_
                      refine r_top (y := oI (q + 1)) ((oI_s q).symm) ?_
                      refine s_virI [.int (oI (q + 1))] [.int (nI q), .ref 65] rfl lkX10_271 rfl rfl rfl (c_linesUnder hM hV (by omega) h2 (fun x hx => lst_sp hx _)) rfl rfl (Nat.le_refl _) (Nat.le_refl _) rfl (rI (e1 := nI (lu d (lst d (d 0 0 - (q + 1))) (q + 1))) rfl ?_)
                      refine n_if_le (tgt := 78) rfl rfl (by omega) (fun h8 => ?_) (fun h8 => ?_)
                      · refine n_iconst 0 rfl ?_
                        exact r_top (by rw [lnF_no (Or.inr (by rw [tb_z h6, h8]; simp))]; rfl) K
                      · refine n_iconst 1 rfl ?_
                        refine r_goto (tgt := 79) rfl rfl ?_
                        exact r_top (by rw [lnF_yes hs (by rw [tb_ne h7, beq_false_of_ne (Nat.ne_of_gt h8)]; simp)]; rfl) K
              refine m_zastN (L' := [(65, (aup f2 q (nI (tb (lnF d (lst d (d 0 0 - (q + 1))) q)))))]) rfl rfl (by omega) (nar_b _) rfl ?_
              refine n_iincO (lv' := [(2, .int (oI q)), (0, .ref 53), (1, .int (nI (d 0 0)))]) rfl rfl (Nat.le_of_ble_eq_true rfl) rfl ?_
              refine r_goto (tgt := 31) rfl rfl ?_
              refine r_lv (lv' := [(2, .int (oI q)), (0, .ref 53), (1, .int (nI (d 0 0)))]) [0, 1, 2] rfl ?_
              exact ih2 q _ (by omega) (by omega) (by rw [hls]; exact aup_all h2 (by rw [aup_s]) (fun j _ z => by rw [aup_n _ _ z]))
        exact loop2 (d 0 0 + 1) (d 0 0) f (by omega) (Nat.le_refl _) (fun x hx => by rw [hf x (by omega), Nat.sub_self]; rfl)
      · refine r_aload_n rfl rfl ?_
        refine s_getR (r := 65) rfl flX10_50 rfl rfl ?_
        refine r_iload_n rfl rfl ?_
        refine n_iconst 0 rfl ?_
        refine m_zastN (L' := [(65, (aup f i (nI 0)))]) rfl rfl (by omega) (by decide) rfl ?_
        refine n_iinc (lv' := [(2, .int (nI (i + 1))), (0, .ref 53), (1, .int (nI (d 0 0)))]) 1 rfl rfl (Nat.le_of_ble_eq_true rfl) rfl ?_
        refine r_goto (tgt := 9) rfl rfl ?_
        refine r_lv (lv' := [(2, .int (nI (i + 1))), (0, .ref 53), (1, .int (nI (d 0 0)))]) [0, 1, 2] rfl ?_
        exact ih (i + 1) _ (by omega) (by omega) (aup_lt hf rfl)
  exact loop (d 0 0 + 1) 0 _ (by omega) (by omega) (fun j hj => absurd hj (Nat.not_lt_zero _))

theorem c_laysResidue {l9 : Bool} {sc : SC} {σ : SS} {d : D} (hM : MR (σ.1 54) d) (hV : Vd d) (hH : ∀ p, p < d 0 0 → σ.1 66 p = nI (tb (he d p))) : Cs (true, l9) sc mX10_laysResidue 0 0 [.ref 53, .int (nI (rs d))] σ (RV fun σ' => ∃ f, σ' = mz σ [(64, f)] [] ∧ (f 5 = nI (a5 d) ∧ f 6 = nI (a6 d) ∧ f 7 = nI (a7 d) ∧ f 8 = nI (a8 d) ∧ f 9 = nI (a9 d)) ∧ ∀ k, k < 5 → f k = σ.1 64 k) := by
  refine Cs.of gmX10_laysResidue (Nat.le_of_ble_eq_true rfl) ?_
  show Ws (true, l9) sc mX10_laysResidue 0 0 0 0 0 [(0, .ref 53), (1, .int (nI (rs d)))] [] (mz σ [] []) (RV fun σ' => ∃ f, σ' = mz σ [(64, f)] [] ∧ (f 5 = nI (a5 d) ∧ f 6 = nI (a6 d) ∧ f 7 = nI (a7 d) ∧ f 8 = nI (a8 d) ∧ f 9 = nI (a9 d)) ∧ ∀ k, k < 5 → f k = σ.1 64 k)
  have hC := vC hV
  have hrs := rs_le hV
  have q5 := a5_le hV
  have q6 := a6_le hV
  have q7 := a7_le hV
  have hsb := tb_le (hs d)
  have hmb : hm d ≤ 12 := by
    have h := sm_le (f := fun p => tb (he d p)) (b := 1) (m := d 0 0) (fun i _ => by have := tb_le (he d i); show tb _ ≤ 1; omega)
    have h2 : hm d ≤ d 0 0 * 1 := h
    omega
  refine r_aload_n rfl rfl ?_
  refine r_aload_n rfl rfl ?_
  refine s_getR (r := 54) rfl flX10_7 rfl rfl ?_
  refine n_iconst 5 rfl ?_
  refine s_iald (x := oI (d 0 5)) rfl rfl (by decide) (MRat hM 0 5 (by decide) (by decide)) ?_
  refine s_virI [.int (oI (d 0 5))] [] rfl lkX10_265 rfl rfl rfl (c_takesShareO hM hV) rfl rfl (Nat.le_refl _) (Nat.le_refl _) rfl (rI (e1 := nI (tb (hs d))) rfl ?_)
  refine r_istore_n (lv' := [(2, .int (nI (tb (hs d)))), (0, .ref 53), (1, .int (nI (rs d)))]) rfl rfl (Nat.le_of_ble_eq_true rfl) rfl ?_
  refine r_aload_n rfl rfl ?_
  refine s_virI [] [] rfl lkX10_281 rfl rfl rfl (c_heirMany hM hV hH) rfl rfl (Nat.le_refl _) (Nat.le_refl _) rfl (rI (e1 := nI (hm d)) rfl ?_)
  suffices K : Ws (true, l9) sc mX10_laysResidue 0 0 0 0 23 [(2, .int (nI (tb (hs d)))), (0, .ref 53), (1, .int (nI (rs d)))] [.int (nI (tb (!(hm d == 0))))] (mz σ [] []) (RV fun σ' => ∃ f, σ' = mz σ [(64, f)] [] ∧ (f 5 = nI (a5 d) ∧ f 6 = nI (a6 d) ∧ f 7 = nI (a7 d) ∧ f 8 = nI (a8 d) ∧ f 9 = nI (a9 d)) ∧ ∀ k, k < 5 → f k = σ.1 64 k) by
    refine n_if_le (tgt := 22) rfl rfl (by omega) (fun h1 => ?_) (fun h1 => ?_)
    · refine n_iconst 0 rfl ?_
      exact r_top (by rw [h1]; rfl) K
    · refine n_iconst 1 rfl ?_
      refine r_goto (tgt := 23) rfl rfl ?_
      exact r_top (by rw [beq_false_of_ne (by omega)]; rfl) K
  have hhb := tb_le (!(hm d == 0))
  have hz0 : ∀ {c : Nat}, tb (!(c == 0)) = 0 → c = 0 := fun {c} h => by rw [tbz] at h; split at h; assumption; omega
  have hz1 : ∀ {c : Nat}, tb (!(c == 0)) ≠ 0 → c ≠ 0 := fun {c} h => by rw [tbz] at h; split at h; omega; assumption
  refine r_istore_n (lv' := [(3, .int (nI (tb (!(hm d == 0))))), (2, .int (nI (tb (hs d)))), (0, .ref 53), (1, .int (nI (rs d)))]) rfl rfl (Nat.le_of_ble_eq_true rfl) rfl ?_
  refine r_aload_n rfl rfl ?_
  refine s_getR (r := 64) rfl flX10_47 rfl rfl ?_
  refine n_iconst 5 rfl ?_
  refine r_iload_n rfl rfl ?_
  suffices K : Ws (true, l9) sc mX10_laysResidue 0 0 0 0 66 [(3, .int (nI (tb (!(hm d == 0))))), (2, .int (nI (tb (hs d)))), (0, .ref 53), (1, .int (nI (rs d)))] [.int (nI (a5 d)), .int (nI 5), .ref 64] (mz σ [] []) (RV fun σ' => ∃ f, σ' = mz σ [(64, f)] [] ∧ (f 5 = nI (a5 d) ∧ f 6 = nI (a6 d) ∧ f 7 = nI (a7 d) ∧ f 8 = nI (a8 d) ∧ f 9 = nI (a9 d)) ∧ ∀ k, k < 5 → f k = σ.1 64 k) by
    refine n_if_ne (tgt := 37) rfl rfl (by omega) (fun h2 => ?_) (fun h2 => ?_)
    · refine r_iload_n rfl rfl ?_
      refine n_if_eq (tgt := 65) rfl rfl (by omega) (fun h3 => ?_) (fun h3 => ?_)
      · refine r_iload_n rfl rfl ?_
        exact r_top (by unfold a5; rw [if_pos (tb_ne h2), if_pos (hz0 h3)]) K
      · have e : a5 d = rs d * d 0 6 / d 0 7 := by unfold a5; rw [if_pos (tb_ne h2), if_neg (hz1 h3)]
        have hmu : rs d * d 0 6 ≤ 79999992 * 99 := Nat.mul_le_mul (by omega) (by omega)
        refine r_iload_n rfl rfl ?_
        refine n_i2l rfl (by omega) ?_
        refine r_aload_n rfl rfl ?_
        refine s_getR (r := 54) rfl flX10_7 rfl rfl ?_
        refine n_bipush 6 rfl (by decide) ?_
        refine s_iald (x := nI (d 0 6)) rfl rfl (by decide) (MRat hM 0 6 (by decide) (by decide)) ?_
        refine n_i2l rfl (by omega) ?_
        refine n_lmul rfl ?_
        refine r_aload_n rfl rfl ?_
        refine s_getR (r := 54) rfl flX10_7 rfl rfl ?_
        refine n_bipush 7 rfl (by decide) ?_
        refine s_iald (x := nI (d 0 7)) rfl rfl (by decide) (MRat hM 0 7 (by decide) (by decide)) ?_
        refine n_i2l rfl (by omega) ?_
        refine n_ldiv rfl (by omega) (by omega) (by omega) ?_
        refine n_l2i rfl ?_
        refine r_goto (tgt := 66) rfl rfl ?_
        exact r_top (by rw [e]) K
    · refine n_iconst 0 rfl ?_
      refine r_goto (tgt := 66) rfl rfl ?_
      exact r_top (by unfold a5; rw [tb_z h2]; rfl) K
  refine m_iast (L' := [(64, (aup (σ.1 64) 5 (nI (a5 d))))]) rfl rfl (by decide) rfl ?_
  refine r_iload_n rfl rfl ?_
  refine r_aload_n rfl rfl ?_
  refine s_getR (r := 64) rfl flX10_47 rfl rfl ?_
  refine n_iconst 5 rfl ?_
  refine s_iald (x := nI (a5 d)) rfl rfl (by decide) rfl ?_
  refine n_isub rfl (by omega) ?_
  refine r_istore (lv' := [(4, .int (nI ((rs d) - (a5 d)))), (3, .int (nI (tb (!(hm d == 0))))), (2, .int (nI (tb (hs d)))), (0, .ref 53), (1, .int (nI (rs d)))]) rfl (Nat.le_of_ble_eq_true rfl) rfl ?_
  refine r_aload_n rfl rfl ?_
  refine s_getR (r := 64) rfl flX10_47 rfl rfl ?_
  refine n_bipush 6 rfl (by decide) ?_
  refine r_iload_n rfl rfl ?_
  suffices K : Ws (true, l9) sc mX10_laysResidue 0 0 0 0 112 [(4, .int (nI ((rs d) - (a5 d)))), (3, .int (nI (tb (!(hm d == 0))))), (2, .int (nI (tb (hs d)))), (0, .ref 53), (1, .int (nI (rs d)))] [.int (nI (a6 d)), .int (nI 6), .ref 64] (mz σ [(64, (aup (σ.1 64) 5 (nI (a5 d))))] []) (RV fun σ' => ∃ f, σ' = mz σ [(64, f)] [] ∧ (f 5 = nI (a5 d) ∧ f 6 = nI (a6 d) ∧ f 7 = nI (a7 d) ∧ f 8 = nI (a8 d) ∧ f 9 = nI (a9 d)) ∧ ∀ k, k < 5 → f k = σ.1 64 k) by
    refine n_if_eq (tgt := 111) rfl rfl (by omega) (fun h2 => ?_) (fun h2 => ?_)
    · refine n_iconst 0 rfl ?_
      exact r_top (by unfold a6; rw [if_neg (by rw [tb_z h2]; intro z; exact absurd z.1 (by decide))]) K
    · refine r_iload_n rfl rfl ?_
      refine n_if_eq (tgt := 111) rfl rfl (by omega) (fun h3 => ?_) (fun h3 => ?_)
      · refine n_iconst 0 rfl ?_
        exact r_top (by unfold a6; rw [if_neg (fun z => z.2 (hz0 h3))]) K
      · have e : a6 d = (rs d - a5 d) * d 0 8 / 100 := by unfold a6; rw [if_pos ⟨tb_ne h2, hz1 h3⟩]
        have hmu : (rs d - a5 d) * d 0 8 ≤ 79999992 * 100 := Nat.mul_le_mul (by omega) (by omega)
        refine r_iload rfl rfl ?_
        refine n_i2l rfl (by omega) ?_
        refine r_aload_n rfl rfl ?_
        refine s_getR (r := 54) rfl flX10_7 rfl rfl ?_
        refine n_bipush 8 rfl (by decide) ?_
        refine s_iald (x := nI (d 0 8)) rfl rfl (by decide) (MRat hM 0 8 (by decide) (by decide)) ?_
        refine n_i2l rfl (by omega) ?_
        refine n_lmul rfl ?_
        refine r_ldc2 (v := lN 100) rfl kcX10_284 ?_
        refine n_ldiv rfl (by omega) (by omega) (by omega) ?_
        refine n_l2i rfl ?_
        refine r_goto (tgt := 112) rfl rfl ?_
        exact r_top (by rw [e]) K
  refine m_iast (L' := [(64, (aup (aup (σ.1 64) 5 (nI (a5 d))) 6 (nI (a6 d))))]) rfl rfl (by decide) rfl ?_
  refine r_aload_n rfl rfl ?_
  refine s_getR (r := 64) rfl flX10_47 rfl rfl ?_
  refine n_bipush 7 rfl (by decide) ?_
  refine r_aload_n rfl rfl ?_
  refine s_getR (r := 64) rfl flX10_47 rfl rfl ?_
  refine n_bipush 6 rfl (by decide) ?_
  refine s_iald (x := nI (a6 d)) rfl rfl (by decide) rfl ?_
  suffices K : Ws (true, l9) sc mX10_laysResidue 0 0 0 0 162 [(4, .int (nI ((rs d) - (a5 d)))), (3, .int (nI (tb (!(hm d == 0))))), (2, .int (nI (tb (hs d)))), (0, .ref 53), (1, .int (nI (rs d)))] [.int (nI (a7 d)), .int (nI 7), .ref 64] (mz σ [(64, (aup (aup (σ.1 64) 5 (nI (a5 d))) 6 (nI (a6 d))))] []) (RV fun σ' => ∃ f, σ' = mz σ [(64, f)] [] ∧ (f 5 = nI (a5 d) ∧ f 6 = nI (a6 d) ∧ f 7 = nI (a7 d) ∧ f 8 = nI (a8 d) ∧ f 9 = nI (a9 d)) ∧ ∀ k, k < 5 → f k = σ.1 64 k) by
    refine n_if_ne (tgt := 133) rfl rfl (by omega) (fun h2 => ?_) (fun h2 => ?_)
    · have hst : hs d = true := by cases e : hs d with | true => rfl | false => exact absurd (by unfold a6; rw [if_neg (by rw [e]; intro z; exact absurd z.1 (by decide))]) h2
      obtain ⟨s, hs9⟩ : ∃ s, d 0 5 = s + 1 := hs_ex hst
      have hA := vA hV s
      have hfa := fa_le (d 2 s)
      have e : a7 d = a6 d * fa (d 2 s) / 100 := by unfold a7; rw [hs9, Nat.add_sub_cancel]
      have hmu : a6 d * fa (d 2 s) ≤ 79999992 * 90 := Nat.mul_le_mul (by omega) (by omega)
      refine r_aload_n rfl rfl ?_
      refine s_getR (r := 64) rfl flX10_47 rfl rfl ?_
      refine n_bipush 6 rfl (by decide) ?_
      refine s_iald (x := nI (a6 d)) rfl rfl (by decide) rfl ?_
      refine n_i2l rfl (by omega) ?_
      refine r_aload_n rfl rfl ?_
      refine r_aload_n rfl rfl ?_
      refine s_getR (r := 54) rfl flX10_7 rfl rfl ?_
      refine n_iconst 5 rfl ?_
      refine s_iald (x := oI (d 0 5)) rfl rfl (by decide) (MRat hM 0 5 (by decide) (by decide)) ?_
      refine r_top (y := nI s) (by rw [hs9]; exact oI_s s) ?_
      refine n_iconst 1 rfl ?_
      refine s_virI [.int (nI s), .int (nI 1)] [.long (lN (a6 d)), .int (nI 7), .ref 64] rfl lkX10_245 rfl rfl rfl (c_of (x := nI (d 2 s)) (by omega) (by omega) (M1 hM (by omega))) rfl rfl (Nat.le_refl _) (Nat.le_refl _) rfl (rI (e1 := nI (d 2 s)) rfl ?_)
      refine s_staI [.int (nI (d 2 s))] [.long (lN (a6 d)), .int (nI 7), .ref 64] rfl lkX10_286 (c_factorOf (by omega)) rfl rfl (Nat.le_refl _) (Nat.le_refl _) rfl (rI (e1 := nI (fa (d 2 s))) rfl ?_)
      refine n_i2l rfl (by omega) ?_
      refine n_lmul rfl ?_
      refine r_ldc2 (v := lN 100) rfl kcX10_284 ?_
      refine n_ldiv rfl (by omega) (by omega) (by omega) ?_
      refine n_l2i rfl ?_
      exact r_top (by rw [e]) K
    · refine n_iconst 0 rfl ?_
      refine r_goto (tgt := 162) rfl rfl ?_
      exact r_top (by unfold a7; rw [h2, Nat.zero_mul, Nat.zero_div]) K
  refine m_iast (L' := [(64, (aup (aup (aup (σ.1 64) 5 (nI (a5 d))) 6 (nI (a6 d))) 7 (nI (a7 d))))]) rfl rfl (by decide) rfl ?_
  refine r_aload_n rfl rfl ?_
  refine s_getR (r := 64) rfl flX10_47 rfl rfl ?_
  refine n_bipush 8 rfl (by decide) ?_
  refine r_iload_n rfl rfl ?_
  suffices K : Ws (true, l9) sc mX10_laysResidue 0 0 0 0 187 [(4, .int (nI ((rs d) - (a5 d)))), (3, .int (nI (tb (!(hm d == 0))))), (2, .int (nI (tb (hs d)))), (0, .ref 53), (1, .int (nI (rs d)))] [.int (nI (a8 d)), .int (nI 8), .ref 64] (mz σ [(64, (aup (aup (aup (σ.1 64) 5 (nI (a5 d))) 6 (nI (a6 d))) 7 (nI (a7 d))))] []) (RV fun σ' => ∃ f, σ' = mz σ [(64, f)] [] ∧ (f 5 = nI (a5 d) ∧ f 6 = nI (a6 d) ∧ f 7 = nI (a7 d) ∧ f 8 = nI (a8 d) ∧ f 9 = nI (a9 d)) ∧ ∀ k, k < 5 → f k = σ.1 64 k) by
    refine n_if_eq (tgt := 186) rfl rfl (by omega) (fun h2 => ?_) (fun h2 => ?_)
    · refine n_iconst 0 rfl ?_
      exact r_top (by unfold a8; rw [if_pos (hz0 h2)]) K
    · refine r_iload rfl rfl ?_
      refine r_aload_n rfl rfl ?_
      refine s_getR (r := 64) rfl flX10_47 rfl rfl ?_
      refine n_bipush 7 rfl (by decide) ?_
      refine s_iald (x := nI (a7 d)) rfl rfl (by decide) rfl ?_
      refine n_isub rfl (by omega) ?_
      refine r_goto (tgt := 187) rfl rfl ?_
      exact r_top (by unfold a8; rw [if_neg (hz1 h2)]) K
  refine m_iast (L' := [(64, (aup (aup (aup (aup (σ.1 64) 5 (nI (a5 d))) 6 (nI (a6 d))) 7 (nI (a7 d))) 8 (nI (a8 d))))]) rfl rfl (by decide) rfl ?_
  refine r_aload_n rfl rfl ?_
  refine s_getR (r := 64) rfl flX10_47 rfl rfl ?_
  refine n_bipush 9 rfl (by decide) ?_
  refine r_iload_n rfl rfl ?_
  suffices K : Ws (true, l9) sc mX10_laysResidue 0 0 0 0 207 [(4, .int (nI ((rs d) - (a5 d)))), (3, .int (nI (tb (!(hm d == 0))))), (2, .int (nI (tb (hs d)))), (0, .ref 53), (1, .int (nI (rs d)))] [.int (nI (a9 d)), .int (nI 9), .ref 64] (mz σ [(64, (aup (aup (aup (aup (σ.1 64) 5 (nI (a5 d))) 6 (nI (a6 d))) 7 (nI (a7 d))) 8 (nI (a8 d))))] []) (RV fun σ' => ∃ f, σ' = mz σ [(64, f)] [] ∧ (f 5 = nI (a5 d) ∧ f 6 = nI (a6 d) ∧ f 7 = nI (a7 d) ∧ f 8 = nI (a8 d) ∧ f 9 = nI (a9 d)) ∧ ∀ k, k < 5 → f k = σ.1 64 k) by
    refine n_if_ne (tgt := 206) rfl rfl (by omega) (fun h2 => ?_) (fun h2 => ?_)
    · refine n_iconst 0 rfl ?_
      exact r_top (by unfold a9; rw [if_neg (by rw [tb_ne h2]; intro z; exact absurd z.1 (by decide))]) K
    · refine r_iload_n rfl rfl ?_
      refine n_if_ne (tgt := 206) rfl rfl (by omega) (fun h3 => ?_) (fun h3 => ?_)
      · refine n_iconst 0 rfl ?_
        exact r_top (by unfold a9; rw [if_neg (fun z => hz1 h3 z.2)]) K
      · refine r_iload_n rfl rfl ?_
        refine r_goto (tgt := 207) rfl rfl ?_
        exact r_top (by unfold a9; rw [if_pos ⟨tb_z h2, hz0 h3⟩]) K
  refine m_iast (L' := [(64, (aup (aup (aup (aup (aup (σ.1 64) 5 (nI (a5 d))) 6 (nI (a6 d))) 7 (nI (a7 d))) 8 (nI (a8 d))) 9 (nI (a9 d))))]) rfl rfl (by decide) rfl ?_
  exact s_vret (st := []) rfl rfl (Nat.zero_le _) (Nat.zero_le _) (⟨rfl, _, rfl, ⟨rfl, rfl, rfl, rfl, rfl⟩, fun k hk => by rw [aup_n _ _ (by omega), aup_n _ _ (by omega), aup_n _ _ (by omega), aup_n _ _ (by omega), aup_n _ _ (by omega)]⟩)

theorem c_isInM {l9 : Bool} {sc : SC} {σ : SS} {q b : Nat} {x y : Bool} (hq : q < 12) (hb : b ≤ 12) (hx : σ.1 66 q = nI (tb x)) (hy : σ.1 67 q = nI (tb y)) : Cs (true, l9) sc mX10_isIn 0 0 [.ref 53, .int (nI q), .int (oI b)] σ (PI (nI (tb (x && !y && !(b == q + 1)))) σ) := by
  refine Cs.of gmX10_isIn (Nat.le_of_ble_eq_true rfl) ?_
  show Ws (true, l9) sc mX10_isIn 0 0 0 0 0 [(0, .ref 53), (1, .int (nI q)), (2, .int (oI b))] [] (mz σ [] []) (PI (nI (tb (x && !y && !(b == q + 1)))) σ)
  have h1 := tb_le x
  have h2 := tb_le y
  refine r_aload_n rfl rfl ?_
  refine s_getR (r := 66) rfl flX10_53 rfl rfl ?_
  refine r_iload_n rfl rfl ?_
  refine s_zald (x := nI (tb x)) rfl rfl (by omega) hx ?_
  suffices K : Ws (true, l9) sc mX10_isIn 0 0 0 0 28 [(0, .ref 53), (1, .int (nI q)), (2, .int (oI b))] [.int (nI (tb (x && !y && !(b == q + 1))))] (mz σ [] []) (PI (nI (tb (x && !y && !(b == q + 1)))) σ) by
    refine n_if_eq (tgt := 27) rfl rfl (by omega) (fun h3 => ?_) (fun h3 => ?_)
    · refine n_iconst 0 rfl ?_
      exact r_top (by rw [tb_z h3]; rfl) K
    · refine r_aload_n rfl rfl ?_
      refine s_getR (r := 67) rfl flX10_56 rfl rfl ?_
      refine r_iload_n rfl rfl ?_
      refine s_zald (x := nI (tb y)) rfl rfl (by omega) hy ?_
      refine n_if_ne (tgt := 27) rfl rfl (by omega) (fun h4 => ?_) (fun h4 => ?_)
      · refine n_iconst 0 rfl ?_
        exact r_top (by rw [tb_ne h4]; simp [tb]) K
      · refine r_iload_n rfl rfl ?_
        refine r_iload_n rfl rfl ?_
        refine r_icmp_eq (tgt := 27) rfl rfl (fun h5 => ?_) (fun h5 => ?_)
        · refine n_iconst 0 rfl ?_
          exact r_top (by rw [(oI_q (by omega) (by omega)).mp h5, beq_self_eq_true]; simp [tb]) K
        · refine n_iconst 1 rfl ?_
          refine r_goto (tgt := 28) rfl rfl ?_
          exact r_top (by rw [tb_ne h3, tb_z h4, beq_false_of_ne (fun z => h5 ((oI_q (by omega) (by omega)).mpr z))]; rfl) K
  exact s_ret (st := []) rfl rfl (nar_tb _) (Nat.zero_le _) (Nat.zero_le _) (pI rfl rfl)

theorem c_weightsM {l9 : Bool} {sc : SC} {σ : SS} {d : D} {b k : Nat} (hM : MR (σ.1 54) d) (hV : Vd d) (hb : b ≤ 12) (hH : ∀ p, p < d 0 0 → σ.1 66 p = nI (tb (he d p))) (hO : ∀ p, p < d 0 0 → σ.1 67 p = nI (tb (otb d b k p))) (hw : ∀ p, p < d 0 0 → σ.2 69 p = lN (wt d p)) : Cs (true, l9) sc mX10_weights 0 0 [.ref 53, .int (oI b)] σ (PL (lN (sm (lk9 d b k) 12)) σ) := by
  refine Cs.of gmX10_weights (Nat.le_of_ble_eq_true rfl) ?_
  show Ws (true, l9) sc mX10_weights 0 0 0 0 0 [(0, .ref 53), (1, .int (oI b))] [] (mz σ [] []) (PL (lN (sm (lk9 d b k) 12)) σ)
  have hC := vC hV
  refine n_lconst0 rfl ?_
  refine r_lstore_n (lv' := [(2, .long (lN 0)), (0, .ref 53), (1, .int (oI b))]) rfl rfl (Nat.le_of_ble_eq_true rfl) rfl ?_
  refine n_iconst 0 rfl ?_
  refine r_istore (lv' := [(4, .int (nI 0)), (2, .long (lN 0)), (0, .ref 53), (1, .int (oI b))]) rfl (Nat.le_of_ble_eq_true rfl) rfl ?_
  refine r_lv (lv' := [(4, .int (nI 0)), (2, .long (lN 0)), (0, .ref 53), (1, .int (oI b))]) [0, 1, 2, 3] rfl ?_
  have loop : ∀ (m9 : Nat) (i : Nat) , d 0 0 - i < m9 → (i ≤ d 0 0) → Ws (true, l9) sc mX10_weights 0 0 0 0 5 [(4, .int (nI i)), (2, .long (lN (sm (lk9 d b k) i))), (0, .ref 53), (1, .int (oI b))] [] (mz σ [] []) (PL (lN (sm (lk9 d b k) 12)) σ) := by
    intro m9
    induction m9 with
    | zero => intro i  hme; exact absurd hme (Nat.not_lt_zero _)
    | succ m9 ih =>
      intro i  hme hi
      have hdb := tb_le (decide (0 < lk9 d b k i))
      refine r_iload rfl rfl ?_
      refine r_aload_n rfl rfl ?_
      refine s_getR (r := 54) rfl flX10_7 rfl rfl ?_
      refine n_iconst 0 rfl ?_
      refine s_iald (x := nI (d 0 0)) rfl rfl (by decide) (MRat hM 0 0 (by decide) (by decide)) ?_
      refine n_icmp_ge (tgt := 46) rfl rfl (by omega) (by omega) (fun h1 => ?_) (fun h1 => ?_)
      · refine r_lload_n rfl rfl ?_
        exact s_lret (st := []) rfl rfl (Nat.zero_le _) (Nat.zero_le _) (pL (by rw [sm_ext (a := d 0 0) (b := 12) (by omega) (fun j hj _ => lk9_hi hj), show i = d 0 0 by omega]) rfl)
      · refine r_lload_n rfl rfl ?_
        refine r_aload_n rfl rfl ?_
        refine r_iload rfl rfl ?_
        refine r_iload_n rfl rfl ?_
        refine s_virI [.int (nI i), .int (oI b)] [.long (lN (sm (lk9 d b k) i))] rfl lkX10_289 rfl rfl rfl (c_isInM (by omega) hb (hH i (by omega)) (hO i (by omega))) rfl rfl (Nat.le_refl _) (Nat.le_refl _) rfl (rI (e1 := nI (tb (decide (0 < lk9 d b k i)))) (by rw [in_eq hV]) ?_)
        suffices K : Ws (true, l9) sc mX10_weights 0 0 0 0 38 [(4, .int (nI i)), (2, .long (lN (sm (lk9 d b k) i))), (0, .ref 53), (1, .int (oI b))] [.long (lN (lk9 d b k i)), .long (lN (sm (lk9 d b k) i))] (mz σ [] []) (PL (lN (sm (lk9 d b k) 12)) σ) by
          refine n_if_eq (tgt := 37) rfl rfl (by omega) (fun h2 => ?_) (fun h2 => ?_)
          · refine n_lconst0 rfl ?_
            exact r_topL (by rw [show lk9 d b k i = 0 by have := of_decide_eq_false (tb_z h2); omega]) K
          · refine r_aload_n rfl rfl ?_
            refine s_getR (r := 69) rfl flX10_62 rfl rfl ?_
            refine r_iload rfl rfl ?_
            refine s_lald (x := lN (lk9 d b k i)) rfl rfl (by omega) ((hw i (by omega)).trans (by rw [lk9_wt (of_decide_eq_true (tb_ne h2))])) ?_
            refine r_goto (tgt := 38) rfl rfl ?_
            exact K 
        refine n_ladd rfl ?_
        refine r_lstore_n (lv' := [(2, .long (lN ((sm (lk9 d b k) i) + (lk9 d b k i)))), (4, .int (nI i)), (0, .ref 53), (1, .int (oI b))]) rfl rfl (Nat.le_of_ble_eq_true rfl) rfl ?_
        refine n_iinc (lv' := [(4, .int (nI (i + 1))), (2, .long (lN ((sm (lk9 d b k) i) + (lk9 d b k i)))), (0, .ref 53), (1, .int (oI b))]) 1 rfl rfl (Nat.le_of_ble_eq_true rfl) rfl ?_
        refine r_goto (tgt := 5) rfl rfl ?_
        refine r_lv (lv' := [(4, .int (nI (i + 1))), (2, .long (lN ((sm (lk9 d b k) i) + (lk9 d b k i)))), (0, .ref 53), (1, .int (oI b))]) [0, 1, 2, 3] rfl ?_
        exact ih (i + 1) (by omega) (by omega)
  exact loop (d 0 0 + 1) 0 (by omega) (by omega)

theorem c_potOf {l9 : Bool} {sc : SC} {σ : SS} {d : D} {b k : Nat} (hM : MR (σ.1 54) d) (hV : Vd d) (hb : b ≤ 12) (hH : ∀ p, p < d 0 0 → σ.1 66 p = nI (tb (he d p))) (hO : ∀ p, p < d 0 0 → σ.1 67 p = nI (tb (otb d b k p))) (hw : ∀ p, p < d 0 0 → σ.2 69 p = lN (wt d p)) (hA : σ.1 64 8 = nI (a8 d)) : Cs (true, l9) sc mX10_potOf 0 0 [.ref 53, .int (oI b)] σ (PL (lN (pb d b k)) σ) := by
  refine Cs.of gmX10_potOf (Nat.le_of_ble_eq_true rfl) ?_
  show Ws (true, l9) sc mX10_potOf 0 0 0 0 0 [(0, .ref 53), (1, .int (oI b))] [] (mz σ [] []) (PL (lN (pb d b k)) σ)
  have hC := vC hV
  have ha8 := a8_le hV
  refine r_aload_n rfl rfl ?_
  refine s_getR (r := 64) rfl flX10_47 rfl rfl ?_
  refine n_bipush 8 rfl (by decide) ?_
  refine s_iald (x := nI (a8 d)) rfl rfl (by decide) hA ?_
  refine n_i2l rfl (by omega) ?_
  refine r_lstore_n (lv' := [(2, .long (lN (a8 d))), (0, .ref 53), (1, .int (oI b))]) rfl rfl (Nat.le_of_ble_eq_true rfl) rfl ?_
  refine n_iconst 0 rfl ?_
  refine r_istore (lv' := [(4, .int (nI 0)), (2, .long (lN (a8 d))), (0, .ref 53), (1, .int (oI b))]) rfl (Nat.le_of_ble_eq_true rfl) rfl ?_
  refine r_lv (lv' := [(4, .int (nI 0)), (2, .long (lN (a8 d))), (0, .ref 53), (1, .int (oI b))]) [0, 1, 2, 3] rfl ?_
  have loop : ∀ (m9 : Nat) (i : Nat) , d 0 0 - i < m9 → (i ≤ d 0 0) → Ws (true, l9) sc mX10_potOf 0 0 0 0 12 [(4, .int (nI i)), (2, .long (lN (a8 d + sm (fun p => if 0 < lk9 d b k p then gf d p else 0) i))), (0, .ref 53), (1, .int (oI b))] [] (mz σ [] []) (PL (lN (pb d b k)) σ) := by
    intro m9
    induction m9 with
    | zero => intro i  hme; exact absurd hme (Nat.not_lt_zero _)
    | succ m9 ih =>
      intro i  hme hi
      have hdb := tb_le (decide (0 < lk9 d b k i))
      have hgf := gf_le hV i
      refine r_iload rfl rfl ?_
      refine r_aload_n rfl rfl ?_
      refine s_getR (r := 54) rfl flX10_7 rfl rfl ?_
      refine n_iconst 0 rfl ?_
      refine s_iald (x := nI (d 0 0)) rfl rfl (by decide) (MRat hM 0 0 (by decide) (by decide)) ?_
      refine n_icmp_ge (tgt := 53) rfl rfl (by omega) (by omega) (fun h1 => ?_) (fun h1 => ?_)
      · refine r_lload_n rfl rfl ?_
        exact s_lret (st := []) rfl rfl (Nat.zero_le _) (Nat.zero_le _) (pL (by unfold pb pt; rw [sm_ext (f := (fun p => if 0 < lk9 d b k p then gf d p else 0)) (a := d 0 0) (b := 12) (by omega) (fun j hj _ => if_neg (by rw [lk9_hi hj]; omega)), show i = d 0 0 by omega]) rfl)
      · refine r_lload_n rfl rfl ?_
        refine r_aload_n rfl rfl ?_
        refine r_iload rfl rfl ?_
        refine r_iload_n rfl rfl ?_
        refine s_virI [.int (nI i), .int (oI b)] [.long (lN (a8 d + sm (fun p => if 0 < lk9 d b k p then gf d p else 0) i))] rfl lkX10_289 rfl rfl rfl (c_isInM (by omega) hb (hH i (by omega)) (hO i (by omega))) rfl rfl (Nat.le_refl _) (Nat.le_refl _) rfl (rI (e1 := nI (tb (decide (0 < lk9 d b k i)))) (by rw [in_eq hV]) ?_)
        suffices K : Ws (true, l9) sc mX10_potOf 0 0 0 0 45 [(4, .int (nI i)), (2, .long (lN (a8 d + sm (fun p => if 0 < lk9 d b k p then gf d p else 0) i))), (0, .ref 53), (1, .int (oI b))] [.long (lN (if 0 < lk9 d b k i then gf d i else 0)), .long (lN (a8 d + sm (fun p => if 0 < lk9 d b k p then gf d p else 0) i))] (mz σ [] []) (PL (lN (pb d b k)) σ) by
          refine n_if_eq (tgt := 44) rfl rfl (by omega) (fun h2 => ?_) (fun h2 => ?_)
          · refine n_lconst0 rfl ?_
            exact r_topL (by rw [if_neg (of_decide_eq_false (tb_z h2))]) K
          · refine r_aload_n rfl rfl ?_
            refine r_iload rfl rfl ?_
            refine s_virI [.int (nI i)] [.long (lN (a8 d + sm (fun p => if 0 < lk9 d b k p then gf d p else 0) i))] rfl lkX10_258 rfl rfl rfl (c_giftOf hM hV (by omega)) rfl rfl (Nat.le_refl _) (Nat.le_refl _) rfl (rI (e1 := nI (gf d i)) rfl ?_)
            refine n_i2l rfl (by omega) ?_
            refine r_goto (tgt := 45) rfl rfl ?_
            exact r_topL (by rw [if_pos (of_decide_eq_true (tb_ne h2))]) K
        refine n_ladd rfl ?_
        refine r_topL (y := lN (a8 d + sm (fun p => if 0 < lk9 d b k p then gf d p else 0) (i + 1))) (by show _ = lN (a8 d + (sm (fun p => if 0 < lk9 d b k p then gf d p else 0) i + _)); rw [Nat.add_assoc]) ?_
        refine r_lstore_n (lv' := [(2, .long (lN (a8 d + sm (fun p => if 0 < lk9 d b k p then gf d p else 0) (i + 1)))), (4, .int (nI i)), (0, .ref 53), (1, .int (oI b))]) rfl rfl (Nat.le_of_ble_eq_true rfl) rfl ?_
        refine n_iinc (lv' := [(4, .int (nI (i + 1))), (2, .long (lN (a8 d + sm (fun p => if 0 < lk9 d b k p then gf d p else 0) (i + 1)))), (0, .ref 53), (1, .int (oI b))]) 1 rfl rfl (Nat.le_of_ble_eq_true rfl) rfl ?_
        refine r_goto (tgt := 12) rfl rfl ?_
        refine r_lv (lv' := [(4, .int (nI (i + 1))), (2, .long (lN (a8 d + sm (fun p => if 0 < lk9 d b k p then gf d p else 0) (i + 1)))), (0, .ref 53), (1, .int (oI b))]) [0, 1, 2, 3] rfl ?_
        exact ih (i + 1) (by omega) (by omega)
  exact loop (d 0 0 + 1) 0 (by omega) (by omega)

theorem c_leavesOut {l9 : Bool} {sc : SC} {σ : SS} {d : D} {b : Nat} (hM : MR (σ.1 54) d) (hV : Vd d) (hb : b ≤ 12) (hH : ∀ p, p < d 0 0 → σ.1 66 p = nI (tb (he d p))) (hw : ∀ p, p < d 0 0 → σ.2 69 p = lN (wt d p)) (hA : σ.1 64 8 = nI (a8 d)) : Cs (true, l9) sc mX10_leavesOut 0 0 [.ref 53, .int (oI b)] σ (RV fun σ' => ∃ f, σ' = mz σ [(67, f)] [] ∧ ∀ p, p < 12 → f p = nI (tb (otb d b 12 p))) := by
  refine Cs.of gmX10_leavesOut (Nat.le_of_ble_eq_true rfl) ?_
  show Ws (true, l9) sc mX10_leavesOut 0 0 0 0 0 [(0, .ref 53), (1, .int (oI b))] [] (mz σ [] []) (RV fun σ' => ∃ f, σ' = mz σ [(67, f)] [] ∧ ∀ p, p < 12 → f p = nI (tb (otb d b 12 p)))
  have hC := vC hV
  have ha8 := a8_le hV
  refine n_iconst 0 rfl ?_
  refine r_istore_n (lv' := [(2, .int (nI 0)), (0, .ref 53), (1, .int (oI b))]) rfl rfl (Nat.le_of_ble_eq_true rfl) rfl ?_
  refine r_lv (lv' := [(2, .int (nI 0)), (0, .ref 53), (1, .int (oI b))]) [0, 1, 2] rfl ?_
  refine m_newI (L' := [(67, (σ.1 67))]) 67 rfl ?_
  have loop : ∀ (m9 : Nat) (i : Nat) (f : Nat → Int32), 12 - i < m9 → (i ≤ 12) → (∀ j, j < i → f j = nI 0) → Ws (true, l9) sc mX10_leavesOut 0 0 0 0 2 [(2, .int (nI i)), (0, .ref 53), (1, .int (oI b))] [] (mz σ [(67, f)] []) (RV fun σ' => ∃ f, σ' = mz σ [(67, f)] [] ∧ ∀ p, p < 12 → f p = nI (tb (otb d b 12 p))) := by
    intro m9
    induction m9 with
    | zero => intro i f hme; exact absurd hme (Nat.not_lt_zero _)
    | succ m9 ih =>
      intro i f hme hi hf
      refine r_iload_n rfl rfl ?_
      refine n_bipush 12 rfl (by decide) ?_
      refine n_icmp_ge (tgt := 21) rfl rfl (by omega) (by omega) (fun h1 => ?_) (fun h1 => ?_)
      · refine n_iconst 1 rfl ?_
        refine r_istore_n (lv' := [(2, .int (nI 1)), (0, .ref 53), (1, .int (oI b))]) rfl rfl (Nat.le_of_ble_eq_true rfl) rfl ?_
        refine r_lv (lv' := [(2, .int (nI 1)), (0, .ref 53), (1, .int (oI b))]) [0, 1, 2] rfl ?_
        have loop2 : ∀ (m9_2 : Nat) (k : Nat) (c : Bool) (f2 : Nat → Int32), 2 * ct (lk9 d b k) + tb c < m9_2 → (ct (lk9 d b k) + k ≤ 12) → (c = false → (ws (ovk d b k) 12).1 = 0) → (∀ p, p < 12 → f2 p = nI (tb (otb d b k p))) → Ws (true, l9) sc mX10_leavesOut 0 0 0 0 23 [(2, .int (nI (tb c))), (0, .ref 53), (1, .int (oI b))] [] (mz σ [(67, f2)] []) (RV fun σ' => ∃ f, σ' = mz σ [(67, f)] [] ∧ ∀ p, p < 12 → f p = nI (tb (otb d b 12 p))) := by
          intro m9_2
          induction m9_2 with
          | zero => intro k c f2 hme; exact absurd hme (Nat.not_lt_zero _)
          | succ m9_2 ih2 =>
            intro k c f2 hme hct hc h2
            have hcb := tb_le c
            refine r_iload_n rfl rfl ?_
            refine n_if_eq (tgt := 163) rfl rfl (by omega) (fun h3 => ?_) (fun h3 => ?_)
            · have h9 : wf (a8 d) (gf d) (wb d b) = lo (a8 d) (gf d) (wb d b) k := lo_fix (hc (tb_z h3)) 12 (by omega)
              exact s_vret (st := []) rfl rfl (Nat.zero_le _) (Nat.zero_le _) (⟨rfl, f2, rfl, fun p hp => by rw [h2 p hp]; unfold otb ot; rw [← h9]; rfl⟩)
            · have hc1 : c = true := tb_ne h3
              subst hc1
              have hO : ∀ p, p < d 0 0 → f2 p = nI (tb (otb d b k p)) := fun p hp => h2 p (by omega)
              have hpb : pb d b k ≤ 79999992 + 12 * 79999992 := Nat.le_trans (pt_le (b := 79999992) (fun i _ => gf_le hV i)) (by omega)
              have hsw : sm (lk9 d b k) 12 ≤ 12 * 4096 := sm_w (fun i _ => lk9_le hV b k i)
              refine r_aload_n rfl rfl ?_
              refine r_iload_n rfl rfl ?_
              refine s_virL [.int (oI b)] [] rfl lkX10_292 rfl rfl rfl (c_potOf hM hV hb hH hO hw hA) rfl rfl (Nat.le_refl _) (Nat.le_refl _) rfl (rL (e1 := lN (pb d b k)) rfl ?_)
              refine r_lstore_n (lv' := [(3, .long (lN (pb d b k))), (2, .int (nI 1)), (0, .ref 53), (1, .int (oI b))]) rfl rfl (Nat.le_of_ble_eq_true rfl) rfl ?_
              refine r_aload_n rfl rfl ?_
              refine r_iload_n rfl rfl ?_
              refine s_virL [.int (oI b)] [] rfl lkX10_296 rfl rfl rfl (c_weightsM hM hV hb hH hO hw) rfl rfl (Nat.le_refl _) (Nat.le_refl _) rfl (rL (e1 := lN (sm (lk9 d b k) 12)) rfl ?_)
              refine r_lstore (lv' := [(5, .long (lN (sm (lk9 d b k) 12))), (3, .long (lN (pb d b k))), (2, .int (nI 1)), (0, .ref 53), (1, .int (oI b))]) rfl (Nat.le_of_ble_eq_true rfl) rfl ?_
              refine n_m1 rfl ?_
              refine r_istore (lv' := [(7, .int ((-1))), (5, .long (lN (sm (lk9 d b k) 12))), (3, .long (lN (pb d b k))), (2, .int (nI 1)), (0, .ref 53), (1, .int (oI b))]) rfl (Nat.le_of_ble_eq_true rfl) rfl ?_
              refine n_lconst0 rfl ?_
              refine r_lstore (lv' := [(8, .long (lN 0)), (7, .int ((-1))), (5, .long (lN (sm (lk9 d b k) 12))), (3, .long (lN (pb d b k))), (2, .int (nI 1)), (0, .ref 53), (1, .int (oI b))]) rfl (Nat.le_of_ble_eq_true rfl) rfl ?_
              refine n_iconst 0 rfl ?_
              refine r_istore (lv' := [(10, .int (nI 0)), (8, .long (lN 0)), (7, .int ((-1))), (5, .long (lN (sm (lk9 d b k) 12))), (3, .long (lN (pb d b k))), (2, .int (nI 1)), (0, .ref 53), (1, .int (oI b))]) rfl (Nat.le_of_ble_eq_true rfl) rfl ?_
              rw [show ((-1 : Int32)) = oI (ws (ovk d b k) 0).1 from oI_0.symm]
              refine r_lv (lv' := [(10, .int (nI 0)), (0, .ref 53), (1, .int (oI b)), (3, .long (lN (pb d b k))), (5, .long (lN (sm (lk9 d b k) 12))), (7, .int (oI ((ws (ovk d b k) 0).1))), (8, .long (lN ((ws (ovk d b k) 0).2)))]) [0, 6, 7, 4, 3, 2, 1] rfl ?_
              have loop3 : ∀ (m9_3 : Nat) (q : Nat) , d 0 0 - q < m9_3 → (q ≤ d 0 0) → Ws (true, l9) sc mX10_leavesOut 0 0 0 0 49 [(10, .int (nI q)), (0, .ref 53), (1, .int (oI b)), (3, .long (lN (pb d b k))), (5, .long (lN (sm (lk9 d b k) 12))), (7, .int (oI ((ws (ovk d b k) q).1))), (8, .long (lN ((ws (ovk d b k) q).2)))] [] (mz σ [(67, f2)] []) (RV fun σ' => ∃ f, σ' = mz σ [(67, f)] [] ∧ ∀ p, p < 12 → f p = nI (tb (otb d b 12 p))) := by
                intro m9_3
                induction m9_3 with
                | zero => intro q  hme; exact absurd hme (Nat.not_lt_zero _)
                | succ m9_3 ih3 =>
                  intro q  hme hq
                  have hdb := tb_le (decide (0 < lk9 d b k q))
                  have hgf := gf_le hV q
                  have hle := wsb (ovk d b k) q (b := 79999992) (fun j hj => ovb (gf_le hV j))
                  have hX := lk9_le hV b k q
                  refine r_iload rfl rfl ?_
                  refine r_aload_n rfl rfl ?_
                  refine s_getR (r := 54) rfl flX10_7 rfl rfl ?_
                  refine n_iconst 0 rfl ?_
                  refine s_iald (x := nI (d 0 0)) rfl rfl (by decide) (MRat hM 0 0 (by decide) (by decide)) ?_
                  refine n_icmp_ge (tgt := 136) rfl rfl (by omega) (by omega) (fun h4 => ?_) (fun h4 => ?_)
                  · have hws : ws (ovk d b k) q = ws (ovk d b k) 12 := by rw [show q = d 0 0 by omega]; exact (ws_ext (by omega) (fun j hj _ => if_neg (by show ¬ 0 < lk9 d b k j; rw [lk9_hi hj]; omega))).symm
                    rw [hws]
                    have hw12 := ws_le (ovk d b k) 12
                    refine r_iload rfl rfl ?_
                    refine n_m1 rfl ?_
                    refine r_icmp_eq (tgt := 146) rfl rfl (fun h5 => ?_) (fun h5 => ?_)
                    · refine n_iconst 0 rfl ?_
                      refine r_istore_n (lv' := [(2, .int (nI 0)), (10, .int (nI q)), (0, .ref 53), (1, .int (oI b)), (3, .long (lN (pb d b k))), (5, .long (lN (sm (lk9 d b k) 12))), (7, .int (oI ((ws (ovk d b k) 12).1))), (8, .long (lN ((ws (ovk d b k) 12).2)))]) rfl rfl (Nat.le_of_ble_eq_true rfl) rfl ?_
                      refine r_iload_n rfl rfl ?_
                      refine n_if_eq (tgt := 160) rfl rfl (by omega) (fun _ => ?_) (fun hq => absurd hq (by omega))
                      refine r_goto (tgt := 23) rfl rfl ?_
                      refine r_lv (lv' := [(2, .int (nI (tb false))), (0, .ref 53), (1, .int (oI b))]) [0, 2, 3] rfl ?_
                      exact ih2 k false f2 (by show 2 * ct (lk9 d b k) + 0 < _; have : tb true = 1 := rfl; omega) hct (fun _ => noI hw12 h5) h2
                    · obtain ⟨j, hj⟩ : ∃ j, (ws (ovk d b k) 12).1 = j + 1 := ⟨(ws (ovk d b k) 12).1 - 1, by have : (ws (ovk d b k) 12).1 ≠ 0 := fun z => h5 (by rw [z]; exact oI_0); omega⟩
                      have hj9 := (ws_sp (ovk d b k) 12).2.2 j hj
                      have hwp : 0 < lk9 d b k j := ov_w hj9.2.2
                      have els : lk9 d b (k + 1) = aup (lk9 d b k) j 0 := ls_st hj
                      have hcz := ct_z hj9.1 hwp
                      rw [← els] at hcz
                      rw [hj, oI_s]
                      refine n_iconst 1 rfl ?_
                      refine r_goto (tgt := 147) rfl rfl ?_
                      refine r_istore_n (lv' := [(2, .int (nI 1)), (10, .int (nI q)), (0, .ref 53), (1, .int (oI b)), (3, .long (lN (pb d b k))), (5, .long (lN (sm (lk9 d b k) 12))), (7, .int (nI j)), (8, .long (lN ((ws (ovk d b k) 12).2)))]) rfl rfl (Nat.le_of_ble_eq_true rfl) rfl ?_
                      refine r_iload_n rfl rfl ?_
                      refine n_if_eq (tgt := 160) rfl rfl (by omega) (fun hq => absurd hq (by decide)) (fun _ => ?_)
                      refine r_aload_n rfl rfl ?_
                      refine s_getR (r := 67) rfl flX10_56 rfl rfl ?_
                      refine r_iload rfl rfl ?_
                      refine n_iconst 1 rfl ?_
                      refine m_zastN (L' := [(67, (aup f2 j (nI 1)))]) rfl rfl (by omega) (by decide) rfl ?_
                      refine r_goto (tgt := 23) rfl rfl ?_
                      refine r_lv (lv' := [(2, .int (nI (tb true))), (0, .ref 53), (1, .int (oI b))]) [0, 2, 3] rfl ?_
                      exact ih2 (k + 1) true _ (by omega) (by omega) (fun z => absurd z (by decide)) (aup_all h2 (by rw [show otb d b (k + 1) j = true by have := ot_s hj j hj9.1; unfold otb; rw [this, beq_self_eq_true, Bool.or_true]]; rfl) (fun p hp z => by rw [show otb d b (k + 1) p = otb d b k p by have := ot_s hj p hp; unfold otb; rw [this, beq_false_of_ne z, Bool.or_false]]))
                  · have hdl : pb d b k * lk9 d b k q / sm (lk9 d b k) 12 ≤ pb d b k := mul_div_le (sm_pos (by omega))
                    have hmu : pb d b k * lk9 d b k q ≤ (79999992 + 12 * 79999992) * 4096 := Nat.mul_le_mul hpb hX
                    have hcmp : lN (ws (ovk d b k) q).2 < lov (a8 d) (gf d) (lk9 d b k) q ↔ (ws (ovk d b k) q).2 < ovk d b k q := lov_lt (by omega) (Nat.lt_of_le_of_lt hdl (by omega)) (by omega)
                    refine r_aload_n rfl rfl ?_
                    refine r_iload rfl rfl ?_
                    refine r_iload_n rfl rfl ?_
                    refine s_virI [.int (nI q), .int (oI b)] [] rfl lkX10_289 rfl rfl rfl (c_isInM (by omega) hb (hH q (by omega)) (hO q (by omega))) rfl rfl (Nat.le_refl _) (Nat.le_refl _) rfl (rI (e1 := nI (tb (decide (0 < lk9 d b k q)))) (by rw [in_eq hV]) ?_)
                    suffices K : Ws (true, l9) sc mX10_leavesOut 0 0 0 0 94 [(10, .int (nI q)), (0, .ref 53), (1, .int (oI b)), (3, .long (lN (pb d b k))), (5, .long (lN (sm (lk9 d b k) 12))), (7, .int (oI ((ws (ovk d b k) q).1))), (8, .long (lN ((ws (ovk d b k) q).2)))] [.long (lov (a8 d) (gf d) (lk9 d b k) q)] (mz σ [(67, f2)] []) (RV fun σ' => ∃ f, σ' = mz σ [(67, f)] [] ∧ ∀ p, p < 12 → f p = nI (tb (otb d b 12 p))) by
                      refine n_if_eq (tgt := 93) rfl rfl (by omega) (fun h6 => ?_) (fun h6 => ?_)
                      · refine n_lconst0 rfl ?_
                        exact r_topL (by unfold lov; rw [if_neg (of_decide_eq_false (tb_z h6))]) K
                      · have hp0 := of_decide_eq_true (tb_ne h6)
                        have hs0 : 0 < sm (lk9 d b k) 12 := Nat.lt_of_lt_of_le hp0 (sm_pos (by omega))
                        refine r_aload_n rfl rfl ?_
                        refine r_iload rfl rfl ?_
                        refine s_virI [.int (nI q)] [] rfl lkX10_258 rfl rfl rfl (c_giftOf hM hV (by omega)) rfl rfl (Nat.le_refl _) (Nat.le_refl _) rfl (rI (e1 := nI (gf d q)) rfl ?_)
                        refine n_i2l rfl (by omega) ?_
                        refine r_lload_n rfl rfl ?_
                        refine r_aload_n rfl rfl ?_
                        refine s_getR (r := 69) rfl flX10_62 rfl rfl ?_
                        refine r_iload rfl rfl ?_
                        refine s_lald (x := lN (lk9 d b k q)) rfl rfl (by omega) ((hw q (by omega)).trans (by rw [lk9_wt hp0])) ?_
                        refine n_lmul rfl ?_
                        refine r_lload rfl rfl ?_
                        refine n_ldiv rfl (by omega) (by omega) (by omega) ?_
                        refine r_lsub rfl ?_
                        refine r_goto (tgt := 94) rfl rfl ?_
                        exact r_topL (by unfold lov; rw [if_pos hp0]; rfl) K
                    refine r_lstore (lv' := [(11, .long (lov (a8 d) (gf d) (lk9 d b k) q)), (10, .int (nI q)), (0, .ref 53), (1, .int (oI b)), (3, .long (lN (pb d b k))), (5, .long (lN (sm (lk9 d b k) 12))), (7, .int (oI ((ws (ovk d b k) q).1))), (8, .long (lN ((ws (ovk d b k) q).2)))]) rfl (Nat.le_of_ble_eq_true rfl) rfl ?_
                    refine r_lload rfl rfl ?_
                    refine r_lload rfl rfl ?_
                    have hno : ¬ (ws (ovk d b k) q).2 < ovk d b k q → ws (ovk d b k) (q + 1) = ws (ovk d b k) q := fun z => if_neg z
                    have hye : (ws (ovk d b k) q).2 < ovk d b k q → ws (ovk d b k) (q + 1) = (q + 1, ovk d b k q) := fun z => if_pos z
                    suffices K : Ws (true, l9) sc mX10_leavesOut 0 0 0 0 111 [(11, .long (lov (a8 d) (gf d) (lk9 d b k) q)), (10, .int (nI q)), (0, .ref 53), (1, .int (oI b)), (3, .long (lN (pb d b k))), (5, .long (lN (sm (lk9 d b k) 12))), (7, .int (oI ((ws (ovk d b k) q).1))), (8, .long (lN ((ws (ovk d b k) q).2)))] [.int (oI ((ws (ovk d b k) (q + 1)).1))] (mz σ [(67, f2)] []) (RV fun σ' => ∃ f, σ' = mz σ [(67, f)] [] ∧ ∀ p, p < 12 → f p = nI (tb (otb d b 12 p))) by
                      refine l_lcmp_le (tgt := 109) rfl rfl rfl (fun h7 => ?_) (fun h7 => ?_)
                      · refine r_iload rfl rfl ?_
                        exact r_top (by rw [hno (fun z => h7 (hcmp.mpr z))]) K
                      · refine r_iload rfl rfl ?_
                        refine r_goto (tgt := 111) rfl rfl ?_
                        exact r_top (by rw [hye (hcmp.mp h7)]; exact (oI_s q).symm) K
                    refine r_istore (lv' := [(7, .int (oI ((ws (ovk d b k) (q + 1)).1))), (11, .long (lov (a8 d) (gf d) (lk9 d b k) q)), (10, .int (nI q)), (0, .ref 53), (1, .int (oI b)), (3, .long (lN (pb d b k))), (5, .long (lN (sm (lk9 d b k) 12))), (8, .long (lN ((ws (ovk d b k) q).2)))]) rfl (Nat.le_of_ble_eq_true rfl) rfl ?_
                    refine r_lload rfl rfl ?_
                    refine r_lload rfl rfl ?_
                    suffices K : Ws (true, l9) sc mX10_leavesOut 0 0 0 0 128 [(7, .int (oI ((ws (ovk d b k) (q + 1)).1))), (11, .long (lov (a8 d) (gf d) (lk9 d b k) q)), (10, .int (nI q)), (0, .ref 53), (1, .int (oI b)), (3, .long (lN (pb d b k))), (5, .long (lN (sm (lk9 d b k) 12))), (8, .long (lN ((ws (ovk d b k) q).2)))] [.long (lN ((ws (ovk d b k) (q + 1)).2))] (mz σ [(67, f2)] []) (RV fun σ' => ∃ f, σ' = mz σ [(67, f)] [] ∧ ∀ p, p < 12 → f p = nI (tb (otb d b 12 p))) by
                      refine l_lcmp_le (tgt := 126) rfl rfl rfl (fun h7 => ?_) (fun h7 => ?_)
                      · refine r_lload rfl rfl ?_
                        exact r_topL (by rw [hno (fun z => h7 (hcmp.mpr z))]) K
                      · refine r_lload rfl rfl ?_
                        refine r_goto (tgt := 128) rfl rfl ?_
                        exact r_topL (by rw [hye (hcmp.mp h7)]; exact lov_ov (hcmp.mp h7)) K
                    refine r_lstore (lv' := [(8, .long (lN ((ws (ovk d b k) (q + 1)).2))), (7, .int (oI ((ws (ovk d b k) (q + 1)).1))), (11, .long (lov (a8 d) (gf d) (lk9 d b k) q)), (10, .int (nI q)), (0, .ref 53), (1, .int (oI b)), (3, .long (lN (pb d b k))), (5, .long (lN (sm (lk9 d b k) 12)))]) rfl (Nat.le_of_ble_eq_true rfl) rfl ?_
                    refine n_iinc (lv' := [(10, .int (nI (q + 1))), (8, .long (lN ((ws (ovk d b k) (q + 1)).2))), (7, .int (oI ((ws (ovk d b k) (q + 1)).1))), (11, .long (lov (a8 d) (gf d) (lk9 d b k) q)), (0, .ref 53), (1, .int (oI b)), (3, .long (lN (pb d b k))), (5, .long (lN (sm (lk9 d b k) 12)))]) 1 rfl rfl (Nat.le_of_ble_eq_true rfl) rfl ?_
                    refine r_goto (tgt := 49) rfl rfl ?_
                    refine r_lv (lv' := [(10, .int (nI (q + 1))), (0, .ref 53), (1, .int (oI b)), (3, .long (lN (pb d b k))), (5, .long (lN (sm (lk9 d b k) 12))), (7, .int (oI ((ws (ovk d b k) (q + 1)).1))), (8, .long (lN ((ws (ovk d b k) (q + 1)).2)))]) [0, 4, 5, 6, 7, 2, 1] rfl ?_
                    exact ih3 (q + 1) (by omega) (by omega)
              exact loop3 (d 0 0 + 1) 0 (by omega) (by omega)
        exact loop2 (2 * ct (lk9 d b 0) + 2) 0 true f (by have : tb true = 1 := rfl; omega) (by have := ct_le (lk9 d b 0); omega) (fun z => absurd z (by decide)) (fun p hp => by rw [hf p (by omega)]; unfold otb; rw [ot_0]; rfl)
      · refine r_aload_n rfl rfl ?_
        refine s_getR (r := 67) rfl flX10_56 rfl rfl ?_
        refine r_iload_n rfl rfl ?_
        refine n_iconst 0 rfl ?_
        refine m_zastN (L' := [(67, (aup f i (nI 0)))]) rfl rfl (by omega) (by decide) rfl ?_
        refine n_iinc (lv' := [(2, .int (nI (i + 1))), (0, .ref 53), (1, .int (oI b))]) 1 rfl rfl (Nat.le_of_ble_eq_true rfl) rfl ?_
        refine r_goto (tgt := 2) rfl rfl ?_
        refine r_lv (lv' := [(2, .int (nI (i + 1))), (0, .ref 53), (1, .int (oI b))]) [0, 1, 2] rfl ?_
        exact ih (i + 1) _ (by omega) (by omega) (aup_lt hf rfl)
  exact loop 13 0 _ (by omega) (by omega) (fun j hj => absurd hj (Nat.not_lt_zero _))

