theorem c_laysShares {l9 : Bool} {sc : SC} {σ : SS} {d : D} {w : Nat → Nat} {t : Nat} (hM : MR (σ.1 54) d) (hV : Vd d) (e9 : lk9 d 0 12 = w) (epb : pb d 0 12 = t) (hH : ∀ p, p < d 0 0 → σ.1 66 p = nI (tb (he d p))) (hw : ∀ p, p < d 0 0 → σ.2 69 p = lN (wt d p)) (hA : σ.1 64 8 = nI (a8 d)) : Cs (true, l9) sc mX10_laysShares 0 0 [.ref 53] σ (RV fun σ' => ∃ f67 f61 f60 f72 f71 f70 g53 g59, σ' = mz σ [(67, f67), (61, f61), (60, f60), (72, f72), (71, f71), (70, f70)] [(53, g53), (59, g59)] ∧ (∀ p, p < 12 → f67 p = nI (tb (otb d 0 12 p))) ∧ (∀ p, p < d 0 0 → f70 p = if 0 < w p then nI (sp t (sm w 12) w 12 p) - nI (gf d p) else 0) ∧ (∀ p, p < d 0 0 → f71 p = nI (bs (t) (sm w 12) w p)) ∧ (∀ p, p < d 0 0 → f72 p = nI (tb (ce (t) (sm w 12) w 12 p))) ∧ (g53 31 = lN (t) ∧ g53 12 = σ.2 53 12)) := by
  refine Cs.of gmX10_laysShares (Nat.le_of_ble_eq_true rfl) ?_
  show Ws (true, l9) sc mX10_laysShares 0 0 0 0 0 [(0, .ref 53)] [] (mz σ [] []) (RV fun σ' => ∃ f67 f61 f60 f72 f71 f70 g53 g59, σ' = mz σ [(67, f67), (61, f61), (60, f60), (72, f72), (71, f71), (70, f70)] [(53, g53), (59, g59)] ∧ (∀ p, p < 12 → f67 p = nI (tb (otb d 0 12 p))) ∧ (∀ p, p < d 0 0 → f70 p = if 0 < w p then nI (sp t (sm w 12) w 12 p) - nI (gf d p) else 0) ∧ (∀ p, p < d 0 0 → f71 p = nI (bs (t) (sm w 12) w p)) ∧ (∀ p, p < d 0 0 → f72 p = nI (tb (ce (t) (sm w 12) w 12 p))) ∧ (g53 31 = lN (t) ∧ g53 12 = σ.2 53 12))
  have hC := vC hV
  have ha8 := a8_le hV
  have hpb : t ≤ 79999992 + 12 * 79999992 := by rw [← epb]; exact Nat.le_trans (pt_le (b := 79999992) (fun i _ => gf_le hV i)) (by omega)
  have hsw : sm w 12 ≤ 12 * 4096 := sm_w (fun i _ => by rw [← e9]; exact lk9_le hV 0 12 i)
  refine r_aload_n rfl rfl ?_
  refine n_m1 rfl ?_
  refine r_top (y := oI 0) oI_0.symm ?_
  refine s_virV [.int (oI 0)] [] rfl lkX10_299 rfl rfl rfl (c_leavesOut hM hV (by omega) hH hw hA) rfl rfl (Nat.le_refl _) (Nat.le_refl _) rfl ?_
  rintro _ ⟨f67, rfl, h67⟩
  refine m_mz (L' := [(67, f67)]) (M' := []) rfl rfl ?_
  have hO : ∀ p, p < d 0 0 → f67 p = nI (tb (otb d 0 12 p)) := fun p hp => h67 p (by omega)
  refine r_aload_n rfl rfl ?_
  refine r_aload_n rfl rfl ?_
  refine n_m1 rfl ?_
  refine r_top (y := oI 0) oI_0.symm ?_
  refine s_virL [.int (oI 0)] [.ref 53] rfl lkX10_292 rfl rfl rfl (c_potOf hM hV (by omega) hH hO hw hA) rfl rfl (Nat.le_refl _) (Nat.le_refl _) rfl (rL (e1 := lN t) (by rw [epb]) ?_)
  refine m_putL (M' := [(53, (aup (σ.2 53) 31 (lN t)))]) rfl flX10_302 rfl rfl (okv_l _) rfl ?_
  refine r_aload_n rfl rfl ?_
  refine n_m1 rfl ?_
  refine r_top (y := oI 0) oI_0.symm ?_
  refine s_virL [.int (oI 0)] [] rfl lkX10_296 rfl rfl rfl (c_weightsM hM hV (by omega) hH hO hw) rfl rfl (Nat.le_refl _) (Nat.le_refl _) rfl (rL (e1 := lN (sm w 12)) (by rw [e9]) ?_)
  refine r_lstore_n (lv' := [(1, .long (lN (sm w 12))), (0, .ref 53)]) rfl rfl (Nat.le_of_ble_eq_true rfl) rfl ?_
  refine n_iconst 0 rfl ?_
  refine r_istore_n (lv' := [(3, .int (nI 0)), (1, .long (lN (sm w 12))), (0, .ref 53)]) rfl rfl (Nat.le_of_ble_eq_true rfl) rfl ?_
  refine r_lv (lv' := [(3, .int (nI 0)), (0, .ref 53), (1, .long (lN (sm w 12)))]) [0, 2, 1] rfl ?_
  refine m_newL (M' := [(53, (aup (σ.2 53) 31 (lN t))), (59, (σ.2 59))]) 59 rfl ?_
  have loop : ∀ (m9 : Nat) (i : Nat) (g : Nat → Int64), 12 - i < m9 → (i ≤ 12) → (∀ j, j < i → g j = lN (w j)) → Ws (true, l9) sc mX10_laysShares 0 0 0 0 22 [(3, .int (nI i)), (0, .ref 53), (1, .long (lN (sm w 12)))] [] (mz σ [(67, f67)] [(53, (aup (σ.2 53) 31 (lN t))), (59, g)]) (RV fun σ' => ∃ f67 f61 f60 f72 f71 f70 g53 g59, σ' = mz σ [(67, f67), (61, f61), (60, f60), (72, f72), (71, f71), (70, f70)] [(53, g53), (59, g59)] ∧ (∀ p, p < 12 → f67 p = nI (tb (otb d 0 12 p))) ∧ (∀ p, p < d 0 0 → f70 p = if 0 < w p then nI (sp t (sm w 12) w 12 p) - nI (gf d p) else 0) ∧ (∀ p, p < d 0 0 → f71 p = nI (bs (t) (sm w 12) w p)) ∧ (∀ p, p < d 0 0 → f72 p = nI (tb (ce (t) (sm w 12) w 12 p))) ∧ (g53 31 = lN (t) ∧ g53 12 = σ.2 53 12)) := by
    intro m9
    induction m9 with
    | zero => intro i g hme; exact absurd hme (Nat.not_lt_zero _)
    | succ m9 ih =>
      intro i g hme hi hg
      have hdb := tb_le (decide (0 < w i))
      refine r_iload_n rfl rfl ?_
      refine n_bipush 12 rfl (by decide) ?_
      refine n_icmp_ge (tgt := 69) rfl rfl (by omega) (by omega) (fun h1 => ?_) (fun h1 => ?_)
      · have hie : i = 12 := by omega
        subst hie
        refine r_aload_n rfl rfl ?_
        refine r_aload_n rfl rfl ?_
        refine s_getL (x := lN t) rfl flX10_302 rfl rfl rfl ?_
        refine n_bipush 12 rfl (by decide) ?_
        refine s_virV [.long (lN t), .int (nI 12)] [] rfl lkX10_261 rfl rfl rfl (c_splits_12 (by omega) hg (by omega)) rfl rfl (Nat.le_refl _) (Nat.le_refl _) rfl ?_
        rintro _ ⟨f60, f61, rfl, h60, h61⟩
        refine m_mz (L' := [(67, f67), (61, f61), (60, f60)]) (M' := [(53, (aup (σ.2 53) 31 (lN t))), (59, g)]) rfl rfl ?_
        refine n_iconst 0 rfl ?_
        refine r_istore_n (lv' := [(3, .int (nI 0)), (0, .ref 53), (1, .long (lN (sm w 12)))]) rfl rfl (Nat.le_of_ble_eq_true rfl) rfl ?_
        refine r_lv (lv' := [(3, .int (nI 0)), (0, .ref 53), (1, .long (lN (sm w 12)))]) [0, 1, 2] rfl ?_
        refine m_newI (L' := [(67, f67), (61, f61), (60, f60), (72, (σ.1 72))]) 72 rfl ?_
        refine m_newI (L' := [(67, f67), (61, f61), (60, f60), (72, (σ.1 72)), (71, (σ.1 71))]) 71 rfl ?_
        refine m_newI (L' := [(67, f67), (61, f61), (60, f60), (72, (σ.1 72)), (71, (σ.1 71)), (70, (σ.1 70))]) 70 rfl ?_
        have loop2 : ∀ (m9_2 : Nat) (q : Nat) (f72 f71 f70 : Nat → Int32), d 0 0 - q < m9_2 → (q ≤ d 0 0) → (∀ p, p < q → f72 p = nI (tb (ce (t) (sm w 12) w 12 p))) → (∀ p, p < q → f71 p = nI (bs (t) (sm w 12) w p)) → (∀ p, p < q → f70 p = if 0 < w p then nI (sp t (sm w 12) w 12 p) - nI (gf d p) else 0) → Ws (true, l9) sc mX10_laysShares 0 0 0 0 81 [(3, .int (nI q)), (0, .ref 53), (1, .long (lN (sm w 12)))] [] (mz σ [(67, f67), (61, f61), (60, f60), (72, f72), (71, f71), (70, f70)] [(53, (aup (σ.2 53) 31 (lN t))), (59, g)]) (RV fun σ' => ∃ f67 f61 f60 f72 f71 f70 g53 g59, σ' = mz σ [(67, f67), (61, f61), (60, f60), (72, f72), (71, f71), (70, f70)] [(53, g53), (59, g59)] ∧ (∀ p, p < 12 → f67 p = nI (tb (otb d 0 12 p))) ∧ (∀ p, p < d 0 0 → f70 p = if 0 < w p then nI (sp t (sm w 12) w 12 p) - nI (gf d p) else 0) ∧ (∀ p, p < d 0 0 → f71 p = nI (bs (t) (sm w 12) w p)) ∧ (∀ p, p < d 0 0 → f72 p = nI (tb (ce (t) (sm w 12) w 12 p))) ∧ (g53 31 = lN (t) ∧ g53 12 = σ.2 53 12)) := by
          intro m9_2
          induction m9_2 with
          | zero => intro q f72 f71 f70 hme; exact absurd hme (Nat.not_lt_zero _)
          | succ m9_2 ih2 =>
            intro q f72 f71 f70 hme hq h72 h71 h70
            have hdb2 := tb_le (decide (0 < w q))
            have hcb := tb_le (ce (t) (sm w 12) w 12 q)
            have hspq : sp t (sm w 12) w 12 q = bs (t) (sm w 12) w q + tb (ce (t) (sm w 12) w 12 q) := rfl
            refine r_iload_n rfl rfl ?_
            refine r_aload_n rfl rfl ?_
            refine s_getR (r := 54) rfl flX10_7 rfl rfl ?_
            refine n_iconst 0 rfl ?_
            refine s_iald (x := nI (d 0 0)) rfl rfl (by decide) (MRat hM 0 0 (by decide) (by decide)) ?_
            refine n_icmp_ge (tgt := 177) rfl rfl (by omega) (by omega) (fun h3 => ?_) (fun h3 => ?_)
            · have hqe : q = d 0 0 := by omega
              rw [hqe] at h70 h71 h72
              exact s_vret (st := []) rfl rfl (Nat.zero_le _) (Nat.zero_le _) (⟨rfl, f67, f61, f60, f72, f71, f70, _, g, rfl, h67, h70, h71, h72, rfl, rfl⟩)
            · refine r_aload_n rfl rfl ?_
              refine r_iload_n rfl rfl ?_
              refine n_m1 rfl ?_
              refine r_top (y := oI 0) oI_0.symm ?_
              refine s_virI [.int (nI q), .int (oI 0)] [] rfl lkX10_289 rfl rfl rfl (c_isInM (b := 0) (by omega) (by omega) (hH q (by omega)) (hO q (by omega))) rfl rfl (Nat.le_refl _) (Nat.le_refl _) rfl (rI (e1 := nI (tb (decide (0 < w q)))) (by rw [in_eq hV, e9]) ?_)
              refine r_istore (lv' := [(4, .int (nI (tb (decide (0 < w q))))), (3, .int (nI q)), (0, .ref 53), (1, .long (lN (sm w 12)))]) rfl (Nat.le_of_ble_eq_true rfl) rfl ?_
              refine r_aload_n rfl rfl ?_
              refine s_getR (r := 72) rfl flX10_71 rfl rfl ?_
              refine r_iload_n rfl rfl ?_
              refine r_aload_n rfl rfl ?_
              refine s_getR (r := 61) rfl flX10_37 rfl rfl ?_
              refine r_iload_n rfl rfl ?_
              refine s_zald (x := nI (tb (ce (t) (sm w 12) w 12 q))) rfl rfl (by omega) (h61 q (by omega)) ?_
              refine m_zastN (L' := [(67, f67), (61, f61), (60, f60), (72, (aup f72 q (nI (tb (ce (t) (sm w 12) w 12 q))))), (71, f71), (70, f70)]) rfl rfl (by omega) (nar_b _) rfl ?_
              refine r_aload_n rfl rfl ?_
              refine s_getR (r := 71) rfl flX10_68 rfl rfl ?_
              refine r_iload_n rfl rfl ?_
              refine r_aload_n rfl rfl ?_
              refine s_getR (r := 60) rfl flX10_34 rfl rfl ?_
              refine r_iload_n rfl rfl ?_
              refine s_iald (x := nI (sp t (sm w 12) w 12 q)) rfl rfl (by omega) (h60 q (by omega)) ?_
              refine r_aload_n rfl rfl ?_
              refine s_getR (r := 61) rfl flX10_37 rfl rfl ?_
              refine r_iload_n rfl rfl ?_
              refine s_zald (x := nI (tb (ce (t) (sm w 12) w 12 q))) rfl rfl (by omega) (h61 q (by omega)) ?_
              suffices K : Ws (true, l9) sc mX10_laysShares 0 0 0 0 136 [(4, .int (nI (tb (decide (0 < w q))))), (3, .int (nI q)), (0, .ref 53), (1, .long (lN (sm w 12)))] [.int (nI (tb (ce (t) (sm w 12) w 12 q))), .int (nI (sp t (sm w 12) w 12 q)), .int (nI q), .ref 71] (mz σ [(67, f67), (61, f61), (60, f60), (72, (aup f72 q (nI (tb (ce (t) (sm w 12) w 12 q))))), (71, f71), (70, f70)] [(53, (aup (σ.2 53) 31 (lN t))), (59, g)]) (RV fun σ' => ∃ f67 f61 f60 f72 f71 f70 g53 g59, σ' = mz σ [(67, f67), (61, f61), (60, f60), (72, f72), (71, f71), (70, f70)] [(53, g53), (59, g59)] ∧ (∀ p, p < 12 → f67 p = nI (tb (otb d 0 12 p))) ∧ (∀ p, p < d 0 0 → f70 p = if 0 < w p then nI (sp t (sm w 12) w 12 p) - nI (gf d p) else 0) ∧ (∀ p, p < d 0 0 → f71 p = nI (bs (t) (sm w 12) w p)) ∧ (∀ p, p < d 0 0 → f72 p = nI (tb (ce (t) (sm w 12) w 12 p))) ∧ (g53 31 = lN (t) ∧ g53 12 = σ.2 53 12)) by
                refine n_if_eq (tgt := 135) rfl rfl (by omega) (fun h4 => ?_) (fun h4 => ?_)
                · refine n_iconst 0 rfl ?_
                  exact r_top (by rw [h4]) K
                · refine n_iconst 1 rfl ?_
                  refine r_goto (tgt := 136) rfl rfl ?_
                  exact r_top (by rw [tb_ne h4]; rfl) K
              refine n_isub rfl (by omega) ?_
              refine r_top (y := nI (bs (t) (sm w 12) w q)) (by rw [hspq, Nat.add_sub_cancel]) ?_
              refine m_iast (L' := [(67, f67), (61, f61), (60, f60), (72, (aup f72 q (nI (tb (ce (t) (sm w 12) w 12 q))))), (71, (aup f71 q (nI (bs (t) (sm w 12) w q)))), (70, f70)]) rfl rfl (by omega) rfl ?_
              refine r_aload_n rfl rfl ?_
              refine s_getR (r := 70) rfl flX10_65 rfl rfl ?_
              refine r_iload_n rfl rfl ?_
              refine r_iload rfl rfl ?_
              suffices K : Ws (true, l9) sc mX10_laysShares 0 0 0 0 170 [(4, .int (nI (tb (decide (0 < w q))))), (3, .int (nI q)), (0, .ref 53), (1, .long (lN (sm w 12)))] [.int (if 0 < w q then nI (sp t (sm w 12) w 12 q) - nI (gf d q) else 0), .int (nI q), .ref 70] (mz σ [(67, f67), (61, f61), (60, f60), (72, (aup f72 q (nI (tb (ce (t) (sm w 12) w 12 q))))), (71, (aup f71 q (nI (bs (t) (sm w 12) w q)))), (70, f70)] [(53, (aup (σ.2 53) 31 (lN t))), (59, g)]) (RV fun σ' => ∃ f67 f61 f60 f72 f71 f70 g53 g59, σ' = mz σ [(67, f67), (61, f61), (60, f60), (72, f72), (71, f71), (70, f70)] [(53, g53), (59, g59)] ∧ (∀ p, p < 12 → f67 p = nI (tb (otb d 0 12 p))) ∧ (∀ p, p < d 0 0 → f70 p = if 0 < w p then nI (sp t (sm w 12) w 12 p) - nI (gf d p) else 0) ∧ (∀ p, p < d 0 0 → f71 p = nI (bs (t) (sm w 12) w p)) ∧ (∀ p, p < d 0 0 → f72 p = nI (tb (ce (t) (sm w 12) w 12 p))) ∧ (g53 31 = lN (t) ∧ g53 12 = σ.2 53 12)) by
                refine n_if_eq (tgt := 169) rfl rfl (by omega) (fun h5 => ?_) (fun h5 => ?_)
                · refine n_iconst 0 rfl ?_
                  exact r_top (by rw [if_neg (of_decide_eq_false (tb_z h5))]; rfl) K
                · have hp0 := of_decide_eq_true (tb_ne h5)
                  have hs0 : 0 < sm w 12 := Nat.lt_of_lt_of_le hp0 (sm_pos (by omega))
                  refine r_lload_n rfl rfl ?_
                  refine n_lconst0 rfl ?_
                  refine n_lcmp_le (tgt := 169) rfl rfl rfl (by omega) (by omega) (fun hq => absurd hq (by omega)) (fun _ => ?_)
                  refine r_aload_n rfl rfl ?_
                  refine s_getR (r := 60) rfl flX10_34 rfl rfl ?_
                  refine r_iload_n rfl rfl ?_
                  refine s_iald (x := nI (sp t (sm w 12) w 12 q)) rfl rfl (by omega) (h60 q (by omega)) ?_
                  refine r_aload_n rfl rfl ?_
                  refine r_iload_n rfl rfl ?_
                  refine s_virI [.int (nI q)] [.int (nI (sp t (sm w 12) w 12 q)), .int (nI q), .ref 70] rfl lkX10_258 rfl rfl rfl (c_giftOf hM hV (by omega)) rfl rfl (Nat.le_refl _) (Nat.le_refl _) rfl (rI (e1 := nI (gf d q)) rfl ?_)
                  refine r_isub rfl ?_
                  refine r_goto (tgt := 170) rfl rfl ?_
                  exact r_top (by rw [if_pos hp0]) K
              refine m_iast (L' := [(67, f67), (61, f61), (60, f60), (72, (aup f72 q (nI (tb (ce (t) (sm w 12) w 12 q))))), (71, (aup f71 q (nI (bs (t) (sm w 12) w q)))), (70, (aup f70 q (if 0 < w q then nI (sp t (sm w 12) w 12 q) - nI (gf d q) else 0)))]) rfl rfl (by omega) rfl ?_
              refine n_iinc (lv' := [(3, .int (nI (q + 1))), (4, .int (nI (tb (decide (0 < w q))))), (0, .ref 53), (1, .long (lN (sm w 12)))]) 1 rfl rfl (Nat.le_of_ble_eq_true rfl) rfl ?_
              refine r_goto (tgt := 81) rfl rfl ?_
              refine r_lv (lv' := [(3, .int (nI (q + 1))), (0, .ref 53), (1, .long (lN (sm w 12)))]) [0, 2, 3] rfl ?_
              exact ih2 (q + 1) _ _ _ (by omega) (by omega) (aup_lt h72 rfl) (aup_lt h71 rfl) (aup_lt h70 rfl)
        exact loop2 (d 0 0 + 1) 0 _ _ _ (by omega) (by omega) (fun j hj => absurd hj (Nat.not_lt_zero _)) (fun j hj => absurd hj (Nat.not_lt_zero _)) (fun j hj => absurd hj (Nat.not_lt_zero _))
      · refine r_aload_n rfl rfl ?_
        refine s_getR (r := 59) rfl flX10_31 rfl rfl ?_
        refine r_iload_n rfl rfl ?_
        refine r_iload_n rfl rfl ?_
        refine r_aload_n rfl rfl ?_
        refine s_getR (r := 54) rfl flX10_7 rfl rfl ?_
        refine n_iconst 0 rfl ?_
        refine s_iald (x := nI (d 0 0)) rfl rfl (by decide) (MRat hM 0 0 (by decide) (by decide)) ?_
        suffices K : Ws (true, l9) sc mX10_laysShares 0 0 0 0 62 [(3, .int (nI i)), (0, .ref 53), (1, .long (lN (sm w 12)))] [.long (lN (w i)), .int (nI i), .ref 59] (mz σ [(67, f67)] [(53, (aup (σ.2 53) 31 (lN t))), (59, g)]) (RV fun σ' => ∃ f67 f61 f60 f72 f71 f70 g53 g59, σ' = mz σ [(67, f67), (61, f61), (60, f60), (72, f72), (71, f71), (70, f70)] [(53, g53), (59, g59)] ∧ (∀ p, p < 12 → f67 p = nI (tb (otb d 0 12 p))) ∧ (∀ p, p < d 0 0 → f70 p = if 0 < w p then nI (sp t (sm w 12) w 12 p) - nI (gf d p) else 0) ∧ (∀ p, p < d 0 0 → f71 p = nI (bs (t) (sm w 12) w p)) ∧ (∀ p, p < d 0 0 → f72 p = nI (tb (ce (t) (sm w 12) w 12 p))) ∧ (g53 31 = lN (t) ∧ g53 12 = σ.2 53 12)) by
          refine n_icmp_ge (tgt := 61) rfl rfl (by omega) (by omega) (fun h2 => ?_) (fun h2 => ?_)
          · have e : w i = 0 := by rw [← e9]; exact lk9_hi h2
            refine n_lconst0 rfl ?_
            rw [e] at K
            exact K
          · refine r_aload_n rfl rfl ?_
            refine r_iload_n rfl rfl ?_
            refine n_m1 rfl ?_
            refine r_top (y := oI 0) oI_0.symm ?_
            refine s_virI [.int (nI i), .int (oI 0)] [.int (nI i), .ref 59] rfl lkX10_289 rfl rfl rfl (c_isInM (b := 0) (by omega) (by omega) (hH i (by omega)) (hO i (by omega))) rfl rfl (Nat.le_refl _) (Nat.le_refl _) rfl (rI (e1 := nI (tb (decide (0 < w i)))) (by rw [in_eq hV, e9]) ?_)
            refine n_if_eq (tgt := 61) rfl rfl (by omega) (fun h3 => ?_) (fun h3 => ?_)
            · have e : w i = 0 := by have := of_decide_eq_false (tb_z h3); omega
              refine n_lconst0 rfl ?_
              rw [e] at K
              exact K
            · refine r_aload_n rfl rfl ?_
              refine s_getR (r := 69) rfl flX10_62 rfl rfl ?_
              refine r_iload_n rfl rfl ?_
              refine s_lald (x := lN (w i)) rfl rfl (by omega) ((hw i (by omega)).trans (by rw [lk9_wt (b := 0) (k := 12) (by rw [e9]; exact of_decide_eq_true (tb_ne h3)), e9])) ?_
              refine r_goto (tgt := 62) rfl rfl ?_
              exact K 
        refine m_last (M' := [(53, (aup (σ.2 53) 31 (lN t))), (59, (aup g i (lN (w i))))]) rfl rfl (by omega) rfl ?_
        refine n_iinc (lv' := [(3, .int (nI (i + 1))), (0, .ref 53), (1, .long (lN (sm w 12)))]) 1 rfl rfl (Nat.le_of_ble_eq_true rfl) rfl ?_
        refine r_goto (tgt := 22) rfl rfl ?_
        refine r_lv (lv' := [(3, .int (nI (i + 1))), (0, .ref 53), (1, .long (lN (sm w 12)))]) [0, 1, 2] rfl ?_
        exact ih (i + 1) _ (by omega) (by omega) (aup_lt hg rfl)
  exact loop 13 0 _ (by omega) (by omega) (fun j hj => absurd hj (Nat.not_lt_zero _))

theorem c_settles {l9 : Bool} {sc : SC} {σ : SS} {d : D} (hM : MR (σ.1 54) d) (hV : Vd d) : Cs (true, l9) sc mX10_settles 0 0 [.ref 53] σ (RV fun σ' => ∃ g0 g1 g2 g3 g4 g5 g6 g7 g8 g9 g10 g11 l0 l1 l2, σ' = mz σ [(60, g0), (61, g1), (62, g2), (64, g3), (63, g4), (66, g5), (68, g6), (65, g7), (70, g8), (71, g9), (72, g10), (67, g11)] [(59, l0), (69, l1), (53, l2)] ∧ MS (mz σ [(60, g0), (61, g1), (62, g2), (64, g3), (63, g4), (66, g5), (68, g6), (65, g7), (70, g8), (71, g9), (72, g10), (67, g11)] [(59, l0), (69, l1), (53, l2)]) d ∧ l2 12 = σ.2 53 12) := by
  refine Cs.of gmX10_settles (Nat.le_of_ble_eq_true rfl) ?_
  show Ws (true, l9) sc mX10_settles 0 0 0 0 0 [(0, .ref 53)] [] (mz σ [] []) (RV fun σ' => ∃ g0 g1 g2 g3 g4 g5 g6 g7 g8 g9 g10 g11 l0 l1 l2, σ' = mz σ [(60, g0), (61, g1), (62, g2), (64, g3), (63, g4), (66, g5), (68, g6), (65, g7), (70, g8), (71, g9), (72, g10), (67, g11)] [(59, l0), (69, l1), (53, l2)] ∧ MS (mz σ [(60, g0), (61, g1), (62, g2), (64, g3), (63, g4), (66, g5), (68, g6), (65, g7), (70, g8), (71, g9), (72, g10), (67, g11)] [(59, l0), (69, l1), (53, l2)]) d ∧ l2 12 = σ.2 53 12)
  have hC := vC hV
  have hnt := nts_le hV hC.2.1
  have hNe : sm (nt d) (d 0 1) = nts d := rfl
  rw [hNe] at hnt
  have hdu := du_le hV (Nat.le_refl 5)
  have hun := du_un d 5
  have hl5 := lf_le d 5
  refine n_iconst 0 rfl ?_
  refine r_istore_n (lv' := [(1, .int (nI 0)), (0, .ref 53)]) rfl rfl (Nat.le_of_ble_eq_true rfl) rfl ?_
  refine n_iconst 0 rfl ?_
  refine r_istore_n (lv' := [(2, .int (nI 0)), (1, .int (nI 0)), (0, .ref 53)]) rfl rfl (Nat.le_of_ble_eq_true rfl) rfl ?_
  refine r_lv (lv' := [(2, .int (nI 0)), (1, .int (nI 0)), (0, .ref 53)]) [0, 1, 2] rfl ?_
  have loop : ∀ (m9 : Nat) (a : Nat) , d 0 1 - a < m9 → (a ≤ d 0 1) → Ws (true, l9) sc mX10_settles 0 0 0 0 4 [(2, .int (nI a)), (1, .int (nI (sm (nt d) a))), (0, .ref 53)] [] (mz σ [] []) (RV fun σ' => ∃ g0 g1 g2 g3 g4 g5 g6 g7 g8 g9 g10 g11 l0 l1 l2, σ' = mz σ [(60, g0), (61, g1), (62, g2), (64, g3), (63, g4), (66, g5), (68, g6), (65, g7), (70, g8), (71, g9), (72, g10), (67, g11)] [(59, l0), (69, l1), (53, l2)] ∧ MS (mz σ [(60, g0), (61, g1), (62, g2), (64, g3), (63, g4), (66, g5), (68, g6), (65, g7), (70, g8), (71, g9), (72, g10), (67, g11)] [(59, l0), (69, l1), (53, l2)]) d ∧ l2 12 = σ.2 53 12) := by
    intro m9
    induction m9 with
    | zero => intro a  hme; exact absurd hme (Nat.not_lt_zero _)
    | succ m9 ih =>
      intro a  hme ha
      refine r_iload_n rfl rfl ?_
      refine r_aload_n rfl rfl ?_
      refine s_getR (r := 54) rfl flX10_7 rfl rfl ?_
      refine n_iconst 1 rfl ?_
      refine s_iald (x := nI (d 0 1)) rfl rfl (by decide) (MRat hM 0 1 (by decide) (by decide)) ?_
      refine n_icmp_ge (tgt := 28) rfl rfl (by omega) (by omega) (fun h1 => ?_) (fun h1 => ?_)
      · have hae : a = d 0 1 := by omega
        rw [hae, hNe]
        refine r_iload_n rfl rfl ?_
        refine r_istore_n (lv' := [(2, .int (nI (nts d))), (1, .int (nI (nts d))), (0, .ref 53)]) rfl rfl (Nat.le_of_ble_eq_true rfl) rfl ?_
        refine n_iconst 0 rfl ?_
        refine r_istore_n (lv' := [(3, .int (nI 0)), (2, .int (nI (nts d))), (1, .int (nI (nts d))), (0, .ref 53)]) rfl rfl (Nat.le_of_ble_eq_true rfl) rfl ?_
        refine n_iconst 0 rfl ?_
        refine r_istore (lv' := [(4, .int (nI 0)), (3, .int (nI 0)), (2, .int (nI (nts d))), (1, .int (nI (nts d))), (0, .ref 53)]) rfl (Nat.le_of_ble_eq_true rfl) rfl ?_
        refine r_lv (lv' := [(4, .int (nI 0)), (3, .int (nI 0)), (0, .ref 53), (1, .int (nI (nts d))), (2, .int (nI (nts d)))]) [0, 1, 4, 3, 2] rfl ?_
        have loop2 : ∀ (m9_2 : Nat) (i : Nat) , d 0 2 - i < m9_2 → (i ≤ d 0 2) → Ws (true, l9) sc mX10_settles 0 0 0 0 35 [(4, .int (nI i)), (3, .int (nI (sm (fun i => d 8 i) i))), (0, .ref 53), (1, .int (nI (nts d))), (2, .int (nI (nts d)))] [] (mz σ [] []) (RV fun σ' => ∃ g0 g1 g2 g3 g4 g5 g6 g7 g8 g9 g10 g11 l0 l1 l2, σ' = mz σ [(60, g0), (61, g1), (62, g2), (64, g3), (63, g4), (66, g5), (68, g6), (65, g7), (70, g8), (71, g9), (72, g10), (67, g11)] [(59, l0), (69, l1), (53, l2)] ∧ MS (mz σ [(60, g0), (61, g1), (62, g2), (64, g3), (63, g4), (66, g5), (68, g6), (65, g7), (70, g8), (71, g9), (72, g10), (67, g11)] [(59, l0), (69, l1), (53, l2)]) d ∧ l2 12 = σ.2 53 12) := by
          intro m9_2
          induction m9_2 with
          | zero => intro i  hme; exact absurd hme (Nat.not_lt_zero _)
          | succ m9_2 ih2 =>
            intro i  hme hi
            refine r_iload rfl rfl ?_
            refine r_aload_n rfl rfl ?_
            refine s_getR (r := 54) rfl flX10_7 rfl rfl ?_
            refine n_iconst 2 rfl ?_
            refine s_iald (x := nI (d 0 2)) rfl rfl (by decide) (MRat hM 0 2 (by decide) (by decide)) ?_
            refine n_icmp_ge (tgt := 69) rfl rfl (by omega) (by omega) (fun h2 => ?_) (fun h2 => ?_)
            · have hie : i = d 0 2 := by omega
              rw [hie, ow_n hV, ow_du hV]
              refine n_iconst 1 rfl ?_
              refine r_istore (lv' := [(4, .int (nI 1)), (3, .int (nI (du d 5))), (0, .ref 53), (1, .int (nI (nts d))), (2, .int (nI (nts d)))]) rfl (Nat.le_of_ble_eq_true rfl) rfl ?_
              refine r_lv (lv' := [(4, .int (nI 1)), (0, .ref 53), (1, .int (nI (nts d))), (2, .int (nI (nts d))), (3, .int (nI (du d 5)))]) [0, 2, 3, 4, 1] rfl ?_
              refine m_newI (L' := [(60, (σ.1 60))]) 60 rfl ?_
              refine m_newI (L' := [(60, (σ.1 60)), (61, (σ.1 61))]) 61 rfl ?_
              refine m_newI (L' := [(60, (σ.1 60)), (61, (σ.1 61)), (62, (σ.1 62))]) 62 rfl ?_
              refine m_newL (M' := [(59, (σ.2 59))]) 59 rfl ?_
              have loop3 : ∀ (m9_3 : Nat) (k : Nat) (f60 f61 f62 : Nat → Int32) (g59 : Nat → Int64), 5 - k < m9_3 → (k ≤ 5) → (∀ i, i < d 0 2 → d 7 i ≤ k → f62 i = nI (pd d i)) → Ws (true, l9) sc mX10_settles 0 0 0 0 72 [(4, .int (nI (k + 1))), (0, .ref 53), (1, .int (nI (nts d))), (2, .int (nI (lf d k))), (3, .int (nI (du d 5)))] [] (mz σ [(60, f60), (61, f61), (62, f62)] [(59, g59)]) (RV fun σ' => ∃ g0 g1 g2 g3 g4 g5 g6 g7 g8 g9 g10 g11 l0 l1 l2, σ' = mz σ [(60, g0), (61, g1), (62, g2), (64, g3), (63, g4), (66, g5), (68, g6), (65, g7), (70, g8), (71, g9), (72, g10), (67, g11)] [(59, l0), (69, l1), (53, l2)] ∧ MS (mz σ [(60, g0), (61, g1), (62, g2), (64, g3), (63, g4), (66, g5), (68, g6), (65, g7), (70, g8), (71, g9), (72, g10), (67, g11)] [(59, l0), (69, l1), (53, l2)]) d ∧ l2 12 = σ.2 53 12) := by
                intro m9_3
                induction m9_3 with
                | zero => intro k f60 f61 f62 g59 hme; exact absurd hme (Nat.not_lt_zero _)
                | succ m9_3 ih3 =>
                  intro k f60 f61 f62 g59 hme hk h62
                  refine r_iload rfl rfl ?_
                  refine n_iconst 5 rfl ?_
                  refine n_icmp_gt (tgt := 92) rfl rfl (by omega) (by omega) (fun h3 => ?_) (fun h3 => ?_)
                  · have hke : k = 5 := by omega
                    subst hke
                    refine r_aload_n rfl rfl ?_
                    refine s_getR (r := 64) rfl flX10_47 rfl rfl ?_
                    refine n_iconst 0 rfl ?_
                    refine r_iload_n rfl rfl ?_
                    refine m_iast (L' := [(60, f60), (61, f61), (62, f62), (64, (aup (σ.1 64) 0 (nI (nts d))))]) rfl rfl (by decide) rfl ?_
                    refine r_aload_n rfl rfl ?_
                    refine s_getR (r := 64) rfl flX10_47 rfl rfl ?_
                    refine n_iconst 1 rfl ?_
                    refine r_iload_n rfl rfl ?_
                    refine r_iload_n rfl rfl ?_
                    refine n_isub rfl (by omega) ?_
                    refine m_iast (L' := [(60, f60), (61, f61), (62, f62), (64, (aup (aup (σ.1 64) 0 (nI (nts d))) 1 (nI ((nts d) - (lf d 5)))))]) rfl rfl (by decide) rfl ?_
                    refine r_aload_n rfl rfl ?_
                    refine s_getR (r := 64) rfl flX10_47 rfl rfl ?_
                    refine n_iconst 2 rfl ?_
                    refine r_iload_n rfl rfl ?_
                    refine r_aload_n rfl rfl ?_
                    refine s_getR (r := 64) rfl flX10_47 rfl rfl ?_
                    refine n_iconst 1 rfl ?_
                    refine s_iald (x := nI ((nts d) - (lf d 5))) rfl rfl (by decide) rfl ?_
                    refine n_isub rfl (by omega) ?_
                    refine m_iast (L' := [(60, f60), (61, f61), (62, f62), (64, (aup (aup (aup (σ.1 64) 0 (nI (nts d))) 1 (nI ((nts d) - (lf d 5)))) 2 (nI ((du d 5) - ((nts d) - (lf d 5))))))]) rfl rfl (by decide) rfl ?_
                    refine r_aload_n rfl rfl ?_
                    refine r_iload_n rfl rfl ?_
                    refine s_virI [.int (nI (lf d 5))] [] rfl lkX10_311 rfl rfl rfl (c_paysLeg hM hV) rfl rfl (Nat.le_refl _) (Nat.le_refl _) rfl ?_
                    rintro _ _ ⟨e61, e60, f63, h59, rfl, rfl, h63⟩
                    refine m_mz (L' := [(60, e60), (61, e61), (62, f62), (64, (aup (aup (aup (σ.1 64) 0 (nI (nts d))) 1 (nI ((nts d) - (lf d 5)))) 2 (nI ((du d 5) - ((nts d) - (lf d 5)))))), (63, f63)]) (M' := [(59, h59)]) rfl rfl ?_
                    have hrs : lf d 5 - rs d = lu9 d := by have : lu9 d ≤ lf d 5 := Nat.min_le_left _ _; unfold rs; omega
                    have hrl : rs d ≤ lf d 5 := Nat.sub_le _ _
                    refine r_istore (lv' := [(4, .int (nI (rs d))), (0, .ref 53), (1, .int (nI (nts d))), (2, .int (nI (lf d 5))), (3, .int (nI (du d 5)))]) rfl (Nat.le_of_ble_eq_true rfl) rfl ?_
                    refine r_aload_n rfl rfl ?_
                    refine s_getR (r := 64) rfl flX10_47 rfl rfl ?_
                    refine n_iconst 3 rfl ?_
                    refine r_iload_n rfl rfl ?_
                    refine r_iload rfl rfl ?_
                    refine n_isub rfl (by omega) ?_
                    refine r_top (y := nI (lu9 d)) (by rw [hrs]) ?_
                    refine m_iast (L' := [(60, e60), (61, e61), (62, f62), (64, (aup (aup (aup (aup (σ.1 64) 0 (nI (nts d))) 1 (nI ((nts d) - (lf d 5)))) 2 (nI ((du d 5) - ((nts d) - (lf d 5))))) 3 (nI (lu9 d)))), (63, f63)]) rfl rfl (by decide) rfl ?_
                    refine r_aload_n rfl rfl ?_
                    refine s_getR (r := 64) rfl flX10_47 rfl rfl ?_
                    refine n_iconst 4 rfl ?_
                    refine r_iload rfl rfl ?_
                    refine m_iast (L' := [(60, e60), (61, e61), (62, f62), (64, (aup (aup (aup (aup (aup (σ.1 64) 0 (nI (nts d))) 1 (nI ((nts d) - (lf d 5)))) 2 (nI ((du d 5) - ((nts d) - (lf d 5))))) 3 (nI (lu9 d))) 4 (nI (rs d)))), (63, f63)]) rfl rfl (by decide) rfl ?_
                    refine r_aload_n rfl rfl ?_
                    refine s_virV [] [] rfl lkX10_314 rfl rfl rfl (c_laysHeirs hM hV) rfl rfl (Nat.le_refl _) (Nat.le_refl _) rfl ?_
                    rintro _ ⟨f65, f66, f68, g69, rfl, h65, h66, h68, h69⟩
                    refine m_mz (L' := [(60, e60), (61, e61), (62, f62), (64, (aup (aup (aup (aup (aup (σ.1 64) 0 (nI (nts d))) 1 (nI ((nts d) - (lf d 5)))) 2 (nI ((du d 5) - ((nts d) - (lf d 5))))) 3 (nI (lu9 d))) 4 (nI (rs d)))), (63, f63), (66, f66), (68, f68), (65, f65)]) (M' := [(59, h59), (69, g69)]) rfl rfl ?_
                    refine r_aload_n rfl rfl ?_
                    refine r_iload rfl rfl ?_
                    refine s_virV [.int (nI (rs d))] [] rfl lkX10_317 rfl rfl rfl (c_laysResidue hM hV h66) rfl rfl (Nat.le_refl _) (Nat.le_refl _) rfl ?_
                    rintro _ ⟨f64, rfl, h64, h64b⟩
                    refine m_mz (L' := [(60, e60), (61, e61), (62, f62), (64, f64), (63, f63), (66, f66), (68, f68), (65, f65)]) (M' := [(59, h59), (69, g69)]) rfl rfl ?_
                    refine r_aload_n rfl rfl ?_
                    refine s_virV [] [] rfl lkX10_320 rfl rfl rfl (c_laysShares (w := w9 d) (t := po d) hM hV (e9_e d) (epb_e d) h66 h69 h64.2.2.2.1) rfl rfl (Nat.le_refl _) (Nat.le_refl _) rfl ?_
                    rintro _ ⟨f67, d61, d60, f72, f71, f70, g53, d59, rfl, h67, h70, h71, h72, h53⟩
                    refine m_mz (L' := [(60, d60), (61, d61), (62, f62), (64, f64), (63, f63), (66, f66), (68, f68), (65, f65), (70, f70), (71, f71), (72, f72), (67, f67)]) (M' := [(59, d59), (69, g69), (53, g53)]) rfl rfl ?_
                    exact s_vret (st := []) rfl rfl (Nat.zero_le _) (Nat.zero_le _) (⟨rfl, d60, d61, f62, f64, f63, f66, f68, f65, f70, f71, f72, f67, d59, g69, g53, rfl, ⟨⟨h64b 0 (by decide), h64b 1 (by decide), h64b 2 (by decide), h64b 3 (by decide), h64b 4 (by decide), h64⟩, fun i hi => h62 i hi (by have := vD hV i; omega), h63, h65, h66, fun p hp => (h67 p hp).trans (by rw [otb_ou]), h68, h70, h71, h72, h69, h53.1⟩, h53.2⟩)
                  · refine r_aload_n rfl rfl ?_
                    refine r_iload rfl rfl ?_
                    refine r_iload_n rfl rfl ?_
                    refine s_virI [.int (nI (k + 1)), .int (nI (lf d k))] [] rfl lkX10_308 rfl rfl rfl (c_pays hM hV (by omega) h62) rfl rfl (Nat.le_refl _) (Nat.le_refl _) rfl ?_
                    rintro _ _ ⟨e61, e60, e62, h59, rfl, rfl, h62b⟩
                    refine m_mz (L' := [(60, e60), (61, e61), (62, e62)]) (M' := [(59, h59)]) rfl rfl ?_
                    refine r_istore_n (lv' := [(2, .int (nI (lf d (k + 1)))), (4, .int (nI (k + 1))), (0, .ref 53), (1, .int (nI (nts d))), (3, .int (nI (du d 5)))]) rfl rfl (Nat.le_of_ble_eq_true rfl) rfl ?_
                    refine n_iinc (lv' := [(4, .int (nI ((k + 1) + 1))), (2, .int (nI (lf d (k + 1)))), (0, .ref 53), (1, .int (nI (nts d))), (3, .int (nI (du d 5)))]) 1 rfl rfl (Nat.le_of_ble_eq_true rfl) rfl ?_
                    refine r_goto (tgt := 72) rfl rfl ?_
                    refine r_lv (lv' := [(4, .int (nI ((k + 1) + 1))), (0, .ref 53), (1, .int (nI (nts d))), (2, .int (nI (lf d (k + 1)))), (3, .int (nI (du d 5)))]) [0, 2, 3, 1, 4] rfl ?_
                    exact ih3 (k + 1) _ _ _ _ (by omega) (by omega) h62b
              exact loop3 6 0 _ _ _ _ (by omega) (by omega) (fun i hi h => by have := vR hV i hi; omega)
            · refine r_iload_n rfl rfl ?_
              refine r_aload_n rfl rfl ?_
              refine s_getR (r := 54) rfl flX10_7 rfl rfl ?_
              refine n_bipush 74 rfl (by decide) ?_
              refine n_iconst 2 rfl ?_
              refine r_iload rfl rfl ?_
              refine n_imul rfl ?_
              refine n_iadd rfl ?_
              refine n_iconst 1 rfl ?_
              refine n_iadd rfl ?_
              refine s_iald (x := nI (d 8 i)) rfl rfl (by omega) (Md1 hM (by omega)) ?_
              refine n_iadd rfl ?_
              refine r_istore_n (lv' := [(3, .int (nI ((sm (fun i => d 8 i) i) + (d 8 i)))), (4, .int (nI i)), (0, .ref 53), (1, .int (nI (nts d))), (2, .int (nI (nts d)))]) rfl rfl (Nat.le_of_ble_eq_true rfl) rfl ?_
              refine n_iinc (lv' := [(4, .int (nI (i + 1))), (3, .int (nI ((sm (fun i => d 8 i) i) + (d 8 i)))), (0, .ref 53), (1, .int (nI (nts d))), (2, .int (nI (nts d)))]) 1 rfl rfl (Nat.le_of_ble_eq_true rfl) rfl ?_
              refine r_goto (tgt := 35) rfl rfl ?_
              refine r_lv (lv' := [(4, .int (nI (i + 1))), (3, .int (nI ((sm (fun i => d 8 i) i) + (d 8 i)))), (0, .ref 53), (1, .int (nI (nts d))), (2, .int (nI (nts d)))]) [0, 1, 2, 3, 4] rfl ?_
              exact ih2 (i + 1) (by omega) (by omega)
        exact loop2 (d 0 2 + 1) 0 (by omega) (by omega)
      · refine r_iload_n rfl rfl ?_
        refine r_aload_n rfl rfl ?_
        refine r_iload_n rfl rfl ?_
        refine s_virI [.int (nI a)] [.int (nI (sm (nt d) a))] rfl lkX10_305 rfl rfl rfl (c_netOf hM hV (by omega)) rfl rfl (Nat.le_refl _) (Nat.le_refl _) rfl (rI (e1 := nI (nt d a)) rfl ?_)
        refine n_iadd rfl ?_
        refine r_istore_n (lv' := [(1, .int (nI ((sm (nt d) a) + (nt d a)))), (2, .int (nI a)), (0, .ref 53)]) rfl rfl (Nat.le_of_ble_eq_true rfl) rfl ?_
        refine n_iinc (lv' := [(2, .int (nI (a + 1))), (1, .int (nI ((sm (nt d) a) + (nt d a)))), (0, .ref 53)]) 1 rfl rfl (Nat.le_of_ble_eq_true rfl) rfl ?_
        refine r_goto (tgt := 4) rfl rfl ?_
        refine r_lv (lv' := [(2, .int (nI (a + 1))), (1, .int (nI ((sm (nt d) a) + (nt d a)))), (0, .ref 53)]) [0, 1, 2] rfl ?_
        exact ih (a + 1) (by omega) (by omega)
  exact loop (d 0 1 + 1) 0 (by omega) (by omega)

