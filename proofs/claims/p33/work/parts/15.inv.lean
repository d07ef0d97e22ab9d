theorem nt_le {d : D} (h : Vd d) (a : Nat) : nt d a ≤ 9999999 := by
  have := vV h a
  unfold nt
  omega
theorem nt_sub {d : D} (h : Vd d) (a : Nat) : d 5 a * d 6 a / 100 ≤ d 5 a := by
  have h1 := vV h a
  have h2 : d 5 a * d 6 a ≤ d 5 a * 100 := Nat.mul_le_mul_left _ h1.2
  omega
theorem nts_le {d : D} (h : Vd d) {j : Nat} (hj : j ≤ 8) : sm (nt d) j ≤ 79999992 := by
  have h1 := sm_le (f := nt d) (b := 9999999) (m := j) (fun i _ => nt_le h i)
  have h3 : j * 9999999 ≤ 8 * 9999999 := Nat.mul_le_mul_right _ hj
  exact Nat.le_trans h1 h3
theorem cl_le {d : D} (h : Vd d) (r i : Nat) : cl d r i ≤ 9999999 := by
  have := vD h i
  unfold cl
  split <;> omega
theorem cls_le {d : D} (h : Vd d) (r : Nat) : sm (cl d r) 8 ≤ 79999992 := sm_le (b := 9999999) (fun i _ => cl_le h r i)
theorem lc_le {d : D} (h : Vd d) (i : Nat) : lc d i ≤ 9999999 := by
  have := vL h i
  unfold lc
  split <;> omega
theorem lcs_le {d : D} (h : Vd d) : sm (lc d) 8 ≤ 79999992 := sm_le (b := 9999999) (fun i _ => lc_le h i)
theorem lf_le (d : D) : ∀ r, lf d r ≤ nts d
  | 0 => Nat.le_refl _
  | r + 1 => Nat.le_trans (Nat.sub_le _ _) (lf_le d r)
theorem sp_zero {t W : Nat} {w : Nat → Nat} {m i : Nat} (h : w i = 0) : sp t W w m i = 0 := by
  unfold sp bs ce
  rw [h, Nat.mul_zero, Nat.zero_div, decide_eq_false (by omega)]
  rfl
/-- what the debts of the first ranks come to -/
def du (d : D) (k : Nat) : Nat := sm (fun r => sm (cl d (r + 1)) 8) k
theorem du_le {d : D} (h : Vd d) {k : Nat} (hk : k ≤ 5) : du d k ≤ 399999960 := by
  have h1 := sm_le (f := fun r => sm (cl d (r + 1)) 8) (b := 79999992) (m := k) (fun i _ => cls_le h _)
  have h3 : k * 79999992 ≤ 5 * 79999992 := Nat.mul_le_mul_right _ hk
  exact Nat.le_trans h1 h3
theorem du_un (d : D) : ∀ k, nts d - lf d k ≤ du d k
  | 0 => by show nts d - nts d ≤ _; omega
  | k + 1 => by
    have h1 := du_un d k
    have h2 := lf_le d k
    show nts d - (lf d k - min (lf d k) (sm (cl d (k + 1)) 8)) ≤ du d k + sm (cl d (k + 1)) 8
    omega
theorem us_s (d : D) (k : Nat) : us d (k + 1) = min (lf d k) (sm (cl d (k + 1)) 8) := rfl
/-- what is paid of a debt after the first ranks -/
def pk9 (d : D) (k i : Nat) : Nat := if i < d 0 2 ∧ d 7 i ≤ k then pr d (d 7 i) i else 0
theorem pk9_s {d : D} (hV : Vd d) (k i : Nat) : pk9 d k i + pr d (k + 1) i = pk9 d (k + 1) i := by
  unfold pk9
  by_cases h : i < d 0 2 ∧ d 7 i = k + 1
  · rw [if_neg (by omega), if_pos (by omega), Nat.zero_add, h.2]
  · have h0 : pr d (k + 1) i = 0 := sp_zero (if_neg h)
    rw [h0, Nat.add_zero]
    by_cases h2 : i < d 0 2 ∧ d 7 i ≤ k
    · rw [if_pos h2, if_pos (by omega)]
    · rw [if_neg h2, if_neg (by omega)]
theorem pk9_5 {d : D} (hV : Vd d) (i : Nat) : pk9 d 5 i = pd d i := by
  unfold pk9 pd
  have := vD hV i
  by_cases h : i < d 0 2
  · rw [if_pos h, if_pos (by omega)]
  · rw [if_neg h, if_neg (by omega)]
theorem pk9_0 {d : D} (hV : Vd d) (i : Nat) : pk9 d 0 i = 0 := by
  unfold pk9
  apply if_neg
  intro h
  have := vR hV i h.1
  omega
theorem c_netValue_A {z : SZ} {sc : SC} {σ : SS} {d : D} {a : Nat} (hS : SR (σ.1 19) d) (hE : EE σ d) (hV : Vd d) (ha : a < d 0 1) : Cs z sc mX2_netValue 0 0 [.ref 12, .ref 18, .int (nI a)] σ (PI (nI (nt d a)) σ) := by
  refine Cs.of gmX2_netValue (Nat.le_of_ble_eq_true rfl) ?_
  show Ws z sc mX2_netValue 0 0 0 0 0 [(0, .ref 12), (1, .ref 18), (2, .int (nI a))] [] (mz σ [] []) (PI (nI (nt d a)) σ)
  have hC := vC hV
  have hA := vV hV a
  refine r_aload_n rfl rfl ?_
  refine r_iload_n rfl rfl ?_
  refine s_virI [.int (nI a)] [] rfl lkX2_40 rfl rfl rfl (c_value_18 hS (by omega)) rfl rfl (Nat.le_refl _) (Nat.le_refl _) rfl (rI (e1 := nI (d 5 a)) rfl ?_)
  refine r_istore_n (lv' := [(3, .int (nI (d 5 a))), (0, .ref 12), (1, .ref 18), (2, .int (nI a))]) rfl rfl (Nat.le_of_ble_eq_true rfl) rfl ?_
  refine r_iload_n rfl rfl ?_
  refine r_iload_n rfl rfl ?_
  refine r_aload_n rfl rfl ?_
  refine s_getR (r := 15) rfl flX2_46 rfl rfl ?_
  refine r_iload_n rfl rfl ?_
  refine s_staNI [.ref 15, .int (nI a)] [.int (nI (d 5 a)), .int (nI (d 5 a))] rfl lkX2_51 (c_at_15 (by omega) (hE.2.2.1 a ha)) rfl rfl (Nat.le_refl _) (Nat.le_refl _) (rI (e1 := nI (d 6 a)) rfl ?_)
  refine n_bipush 100 rfl (by decide) ?_
  refine s_staNI [.int (nI (d 5 a)), .int (nI (d 6 a)), .int (nI 100)] [.int (nI (d 5 a))] rfl lkX2_55 (c_portion (by omega) (by omega) (by omega)) rfl rfl (Nat.le_refl _) (Nat.le_refl _) (rI (e1 := nI (d 5 a * d 6 a / 100)) rfl ?_)
  refine n_isub rfl (nt_sub hV a) ?_
  exact s_ret (st := []) rfl rfl rfl (Nat.zero_le _) (Nat.zero_le _) (pI rfl rfl)

theorem c_addUp_A {z : SZ} {sc : SC} {σ : SS} {d : D} (hS : SR (σ.1 19) d) (hE : EE σ d) (hV : Vd d) : Cs z sc mX2_addUpAssets 0 0 [.ref 21, .ref 12, .ref 18] σ (RV fun σ' => ∃ f, σ' = mz σ [(21, f)] [] ∧ f 0 = nI (nts d)) := by
  refine Cs.of gmX2_addUpAssets (Nat.le_of_ble_eq_true rfl) ?_
  show Ws z sc mX2_addUpAssets 0 0 0 0 0 [(0, .ref 21), (1, .ref 12), (2, .ref 18)] [] (mz σ [] []) (RV fun σ' => ∃ f, σ' = mz σ [(21, f)] [] ∧ f 0 = nI (nts d))
  have hC := vC hV
  refine r_aload_n rfl rfl ?_
  refine n_iconst 0 rfl ?_
  refine m_putI (L' := [(21, (aup (σ.1 21) 0 (nI 0)))]) rfl flX2_9 rfl rfl (okv_i _) rfl ?_
  refine n_iconst 0 rfl ?_
  refine r_istore_n (lv' := [(3, .int (nI 0)), (0, .ref 21), (1, .ref 12), (2, .ref 18)]) rfl rfl (Nat.le_of_ble_eq_true rfl) rfl ?_
  refine r_lv (lv' := [(3, .int (nI 0)), (0, .ref 21), (1, .ref 12), (2, .ref 18)]) [0, 1, 2, 3] rfl ?_
  have loop : ∀ (m9 : Nat) (a : Nat) (f : Nat → Int32), d 0 1 - a < m9 → (a ≤ d 0 1) → (f 0 = nI (sm (nt d) a)) → Ws z sc mX2_addUpAssets 0 0 0 0 7 [(3, .int (nI a)), (0, .ref 21), (1, .ref 12), (2, .ref 18)] [] (mz σ [(21, f)] []) (RV fun σ' => ∃ f, σ' = mz σ [(21, f)] [] ∧ f 0 = nI (nts d)) := by
    intro m9
    induction m9 with
    | zero => intro a f hme; exact absurd hme (Nat.not_lt_zero _)
    | succ m9 ih =>
      intro a f hme ha hf
      refine r_iload_n rfl rfl ?_
      refine r_aload_n rfl rfl ?_
      refine s_getI (x := nI (d 0 1)) rfl flX2_59 rfl rfl hE.1.2.2.1 ?_
      refine n_icmp_ge (tgt := 36) rfl rfl (by omega) (by omega) (fun h1 => ?_) (fun h1 => ?_)
      · exact s_vret (st := []) rfl rfl (Nat.zero_le _) (Nat.zero_le _) (⟨rfl, f, rfl, by rw [hf, show a = d 0 1 by omega]; rfl⟩)
      · refine r_aload_n rfl rfl ?_
        refine r_dup rfl rfl ?_
        refine s_getI (x := nI (sm (nt d) a)) rfl flX2_9 rfl rfl hf ?_
        refine r_aload_n rfl rfl ?_
        refine r_aload_n rfl rfl ?_
        refine r_iload_n rfl rfl ?_
        refine s_staI [.ref 12, .ref 18, .int (nI a)] [.int (nI (sm (nt d) a)), .ref 21] rfl lkX2_62 (c_netValue_A hS hE hV (by omega)) rfl rfl (Nat.le_refl _) (Nat.le_refl _) rfl (rI (e1 := nI (nt d a)) rfl ?_)
        refine n_iadd rfl ?_
        refine m_putI (L' := [(21, (aup f 0 (nI ((sm (nt d) a) + (nt d a)))))]) rfl flX2_9 rfl rfl (okv_i _) rfl ?_
        refine n_iinc (lv' := [(3, .int (nI (a + 1))), (0, .ref 21), (1, .ref 12), (2, .ref 18)]) 1 rfl rfl (Nat.le_of_ble_eq_true rfl) rfl ?_
        refine r_goto (tgt := 7) rfl rfl ?_
        refine r_lv (lv' := [(3, .int (nI (a + 1))), (0, .ref 21), (1, .ref 12), (2, .ref 18)]) [0, 1, 2, 3] rfl ?_
        exact ih (a + 1) _ (by omega) (by omega) (aup_s _ _ _)
  exact loop (d 0 1 + 1) 0 _ (by omega) (by omega) (aup_s _ _ _)

theorem c_claim_A {z : SZ} {sc : SC} {σ : SS} {d : D} {q : Nat} (hS : SR (σ.1 19) d) (hV : Vd d) (hq : q ≤ 5) : Cs z sc mX2_claimDebts 0 0 [.ref 21, .ref 18, .int (nI q)] σ (RV fun σ' => ∃ f, σ' = mz σ [(24, f)] [] ∧ ∀ i, i < 8 → f i = nI (cl d q i)) := by
  refine Cs.of gmX2_claimDebts (Nat.le_of_ble_eq_true rfl) ?_
  show Ws z sc mX2_claimDebts 0 0 0 0 0 [(0, .ref 21), (1, .ref 18), (2, .int (nI q))] [] (mz σ [] []) (RV fun σ' => ∃ f, σ' = mz σ [(24, f)] [] ∧ ∀ i, i < 8 → f i = nI (cl d q i))
  have hC := vC hV
  refine n_iconst 0 rfl ?_
  refine r_istore_n (lv' := [(3, .int (nI 0)), (0, .ref 21), (1, .ref 18), (2, .int (nI q))]) rfl rfl (Nat.le_of_ble_eq_true rfl) rfl ?_
  refine r_lv (lv' := [(3, .int (nI 0)), (0, .ref 21), (1, .ref 18), (2, .int (nI q))]) [0, 1, 2, 3] rfl ?_
  refine m_newI (L' := [(24, (σ.1 24))]) 24 rfl ?_
  have loop : ∀ (m9 : Nat) (i : Nat) (f : Nat → Int32), 8 - i < m9 → (i ≤ 8) → (∀ j, j < i → f j = nI (cl d q j)) → Ws z sc mX2_claimDebts 0 0 0 0 2 [(3, .int (nI i)), (0, .ref 21), (1, .ref 18), (2, .int (nI q))] [] (mz σ [(24, f)] []) (RV fun σ' => ∃ f, σ' = mz σ [(24, f)] [] ∧ ∀ i, i < 8 → f i = nI (cl d q i)) := by
    intro m9
    induction m9 with
    | zero => intro i f hme; exact absurd hme (Nat.not_lt_zero _)
    | succ m9 ih =>
      intro i f hme hi hf
      have hD := vD hV i
      refine r_iload_n rfl rfl ?_
      refine n_bipush 8 rfl (by decide) ?_
      refine n_icmp_ge (tgt := 58) rfl rfl (by omega) (by omega) (fun h1 => ?_) (fun h1 => ?_)
      · exact s_vret (st := []) rfl rfl (Nat.zero_le _) (Nat.zero_le _) (⟨rfl, f, rfl, fun j hj => hf j (by omega)⟩)
      · refine r_iload_n rfl rfl ?_
        refine r_aload_n rfl rfl ?_
        refine s_virI [] [.int (nI i)] rfl lkX2_84 rfl rfl rfl (c_debtCount_18 hS) rfl rfl (Nat.le_refl _) (Nat.le_refl _) rfl (rI (e1 := nI (d 0 2)) rfl ?_)
        suffices K : Ws z sc mX2_claimDebts 0 0 0 0 30 [(3, .int (nI i)), (0, .ref 21), (1, .ref 18), (2, .int (nI q))] [.int (nI (tb (decide (i < d 0 2 ∧ d 7 i = q))))] (mz σ [(24, f)] []) (RV fun σ' => ∃ f, σ' = mz σ [(24, f)] [] ∧ ∀ i, i < 8 → f i = nI (cl d q i)) by
          refine n_icmp_ge (tgt := 29) rfl rfl (by omega) (by omega) (fun h2 => ?_) (fun h2 => ?_)
          · refine n_iconst 0 rfl ?_
            exact r_top (by rw [decide_eq_false (by omega)]; rfl) K
          · refine r_aload_n rfl rfl ?_
            refine r_iload_n rfl rfl ?_
            refine s_virI [.int (nI i)] [] rfl lkX2_88 rfl rfl rfl (c_debtRank_18 hS (by omega)) rfl rfl (Nat.le_refl _) (Nat.le_refl _) rfl (rI (e1 := nI (d 7 i)) rfl ?_)
            refine r_iload_n rfl rfl ?_
            refine n_icmp_ne (tgt := 29) rfl rfl (by omega) (by omega) (fun h3 => ?_) (fun h3 => ?_)
            · refine n_iconst 0 rfl ?_
              exact r_top (by rw [decide_eq_false (by omega)]; rfl) K
            · refine n_iconst 1 rfl ?_
              refine r_goto (tgt := 30) rfl rfl ?_
              exact r_top (by rw [decide_eq_true (by omega)]; rfl) K
        have hT := tb_le (decide (i < d 0 2 ∧ d 7 i = q))
        refine r_istore (lv' := [(4, .int (nI (tb (decide (i < d 0 2 ∧ d 7 i = q))))), (3, .int (nI i)), (0, .ref 21), (1, .ref 18), (2, .int (nI q))]) rfl (Nat.le_of_ble_eq_true rfl) rfl ?_
        refine r_aload_n rfl rfl ?_
        refine s_getR (r := 24) rfl flX2_34 rfl rfl ?_
        refine r_iload_n rfl rfl ?_
        refine r_iload rfl rfl ?_
        suffices K : Ws z sc mX2_claimDebts 0 0 0 0 51 [(4, .int (nI (tb (decide (i < d 0 2 ∧ d 7 i = q))))), (3, .int (nI i)), (0, .ref 21), (1, .ref 18), (2, .int (nI q))] [.int (nI (cl d q i)), .int (nI i), .ref 24] (mz σ [(24, f)] []) (RV fun σ' => ∃ f, σ' = mz σ [(24, f)] [] ∧ ∀ i, i < 8 → f i = nI (cl d q i)) by
          refine n_if_eq (tgt := 50) rfl rfl (by omega) (fun h4 => ?_) (fun h4 => ?_)
          · refine n_iconst 0 rfl ?_
            exact r_top (by unfold cl; rw [if_neg (of_decide_eq_false (tb_z h4))]) K
          · refine r_aload_n rfl rfl ?_
            refine r_iload_n rfl rfl ?_
            refine s_virI [.int (nI i)] [.int (nI i), .ref 24] rfl lkX2_91 rfl rfl rfl (c_debtAmount_18 hS (by omega)) rfl rfl (Nat.le_refl _) (Nat.le_refl _) rfl (rI (e1 := nI (d 8 i)) rfl ?_)
            refine r_goto (tgt := 51) rfl rfl ?_
            exact r_top (by unfold cl; rw [if_pos (of_decide_eq_true (tb_ne h4))]) K
        refine m_iast (L' := [(24, (aup f i (nI (cl d q i))))]) rfl rfl (by omega) rfl ?_
        refine n_iinc (lv' := [(3, .int (nI (i + 1))), (4, .int (nI (tb (decide (i < d 0 2 ∧ d 7 i = q))))), (0, .ref 21), (1, .ref 18), (2, .int (nI q))]) 1 rfl rfl (Nat.le_of_ble_eq_true rfl) rfl ?_
        refine r_goto (tgt := 2) rfl rfl ?_
        refine r_lv (lv' := [(3, .int (nI (i + 1))), (0, .ref 21), (1, .ref 18), (2, .int (nI q))]) [0, 2, 3, 4] rfl ?_
        exact ih (i + 1) _ (by omega) (by omega) (aup_lt hf rfl)
  exact loop 9 0 _ (by omega) (by omega) (fun j hj => absurd hj (Nat.not_lt_zero _))

theorem c_payDebts_A {z : SZ} {sc : SC} {σ : SS} {d : D} (hS : SR (σ.1 19) d) (hV : Vd d) (hN : σ.1 21 0 = nI (nts d)) : Cs z sc mX2_payDebts 0 0 [.ref 21, .ref 18] σ (RV fun σ' => ∃ f1 f2 f3 f4, σ' = mz σ [(22, f1), (21, f2), (24, f3), (25, f4)] [] ∧ (f2 0 = nI (nts d) ∧ f2 1 = nI (nts d - lf d 5) ∧ f2 2 = nI (du d 5 - (nts d - lf d 5))) ∧ ∀ i, i < 8 → f1 i = nI (pd d i)) := by
  refine Cs.of gmX2_payDebts (Nat.le_of_ble_eq_true rfl) ?_
  show Ws z sc mX2_payDebts 0 0 0 0 0 [(0, .ref 21), (1, .ref 18)] [] (mz σ [] []) (RV fun σ' => ∃ f1 f2 f3 f4, σ' = mz σ [(22, f1), (21, f2), (24, f3), (25, f4)] [] ∧ (f2 0 = nI (nts d) ∧ f2 1 = nI (nts d - lf d 5) ∧ f2 2 = nI (du d 5 - (nts d - lf d 5))) ∧ ∀ i, i < 8 → f1 i = nI (pd d i))
  have hNb := nts_le hV (vC hV).2.1
  have hNe : sm (nt d) (d 0 1) = nts d := rfl
  rw [hNe] at hNb
  refine n_iconst 0 rfl ?_
  refine r_istore_n (lv' := [(2, .int (nI 0)), (0, .ref 21), (1, .ref 18)]) rfl rfl (Nat.le_of_ble_eq_true rfl) rfl ?_
  refine r_lv (lv' := [(2, .int (nI 0)), (0, .ref 21), (1, .ref 18)]) [0, 1, 2] rfl ?_
  refine m_newI (L' := [(22, (σ.1 22))]) 22 rfl ?_
  have loop : ∀ (m9 : Nat) (i : Nat) (f : Nat → Int32), 8 - i < m9 → (i ≤ 8) → (∀ j, j < i → f j = nI 0) → Ws z sc mX2_payDebts 0 0 0 0 2 [(2, .int (nI i)), (0, .ref 21), (1, .ref 18)] [] (mz σ [(22, f)] []) (RV fun σ' => ∃ f1 f2 f3 f4, σ' = mz σ [(22, f1), (21, f2), (24, f3), (25, f4)] [] ∧ (f2 0 = nI (nts d) ∧ f2 1 = nI (nts d - lf d 5) ∧ f2 2 = nI (du d 5 - (nts d - lf d 5))) ∧ ∀ i, i < 8 → f1 i = nI (pd d i)) := by
    intro m9
    induction m9 with
    | zero => intro i f hme; exact absurd hme (Nat.not_lt_zero _)
    | succ m9 ih =>
      intro i f hme hi hf
      refine r_iload_n rfl rfl ?_
      refine n_bipush 8 rfl (by decide) ?_
      refine n_icmp_ge (tgt := 21) rfl rfl (by omega) (by omega) (fun h1 => ?_) (fun h1 => ?_)
      · refine r_aload_n rfl rfl ?_
        refine n_iconst 0 rfl ?_
        refine m_putI (L' := [(22, f), (21, (aup (σ.1 21) 1 (nI 0)))]) rfl flX2_15 rfl rfl (okv_i _) rfl ?_
        refine r_aload_n rfl rfl ?_
        refine n_iconst 0 rfl ?_
        refine m_putI (L' := [(22, f), (21, (aup (aup (σ.1 21) 1 (nI 0)) 2 (nI 0)))]) rfl flX2_18 rfl rfl (okv_i _) rfl ?_
        refine n_iconst 1 rfl ?_
        refine r_istore_n (lv' := [(2, .int (nI 1)), (0, .ref 21), (1, .ref 18)]) rfl rfl (Nat.le_of_ble_eq_true rfl) rfl ?_
        refine r_lv (lv' := [(2, .int (nI 1)), (0, .ref 21), (1, .ref 18)]) [0, 1, 2] rfl ?_
        refine m_newI (L' := [(22, f), (21, (aup (aup (σ.1 21) 1 (nI 0)) 2 (nI 0))), (24, (σ.1 24))]) 24 rfl ?_
        refine m_newI (L' := [(22, f), (21, (aup (aup (σ.1 21) 1 (nI 0)) 2 (nI 0))), (24, (σ.1 24)), (25, (σ.1 25))]) 25 rfl ?_
        have loop2 : ∀ (m9_2 : Nat) (k : Nat) (f1 f2 f3 f4 : Nat → Int32), 5 - k < m9_2 → (k ≤ 5) → (f2 0 = nI (nts d)) → (f2 1 = nI (nts d - lf d k)) → (f2 2 = nI (du d k - (nts d - lf d k))) → (∀ i, i < 8 → f1 i = nI (pk9 d k i)) → Ws z sc mX2_payDebts 0 0 0 0 33 [(2, .int (nI (k + 1))), (0, .ref 21), (1, .ref 18)] [] (mz σ [(22, f1), (21, f2), (24, f3), (25, f4)] []) (RV fun σ' => ∃ f1 f2 f3 f4, σ' = mz σ [(22, f1), (21, f2), (24, f3), (25, f4)] [] ∧ (f2 0 = nI (nts d) ∧ f2 1 = nI (nts d - lf d 5) ∧ f2 2 = nI (du d 5 - (nts d - lf d 5))) ∧ ∀ i, i < 8 → f1 i = nI (pd d i)) := by
          intro m9_2
          induction m9_2 with
          | zero => intro k f1 f2 f3 f4 hme; exact absurd hme (Nat.not_lt_zero _)
          | succ m9_2 ih2 =>
            intro k f1 f2 f3 f4 hme hk h20 h21 h22 hf1
            have hl := lf_le d k
            have hcs := cls_le hV (k + 1)
            have hu := us_s d k
            have hdu := du_un d k
            have hls : lf d (k + 1) = lf d k - min (lf d k) (sm (cl d (k + 1)) 8) := rfl
            have hds : du d (k + 1) = du d k + sm (cl d (k + 1)) 8 := rfl
            have hdb := du_le hV hk
            refine r_iload_n rfl rfl ?_
            refine n_iconst 5 rfl ?_
            refine n_icmp_gt (tgt := 143) rfl rfl (by omega) (by omega) (fun h2 => ?_) (fun h2 => ?_)
            · have hk5 : k = 5 := by omega
              rw [hk5] at h21 h22 hf1
              exact s_vret (st := []) rfl rfl (Nat.zero_le _) (Nat.zero_le _) (⟨rfl, f1, f2, f3, f4, rfl, ⟨h20, h21, h22⟩, fun i hi => by rw [hf1 i hi, pk9_5 hV]⟩)
            · refine r_aload_n rfl rfl ?_
              refine r_aload_n rfl rfl ?_
              refine r_iload_n rfl rfl ?_
              refine s_virV [.ref 18, .int (nI (k + 1))] [] rfl lkX2_66 rfl rfl rfl (c_claim_A hS hV (by omega)) rfl rfl (Nat.le_refl _) (Nat.le_refl _) rfl ?_
              rintro _ ⟨g3, rfl, hg3⟩
              refine m_mz (L' := [(22, f1), (21, f2), (24, g3), (25, f4)]) (M' := []) rfl rfl ?_
              refine r_aload_n rfl rfl ?_
              refine s_getR (r := 24) rfl flX2_34 rfl rfl ?_
              refine s_staNI [.ref 24] [] rfl lkX2_70 (c_sumOf_24 hg3) rfl rfl (Nat.le_refl _) (Nat.le_refl _) (rI (e1 := nI (sm (cl d (k + 1)) 8)) rfl ?_)
              refine r_istore_n (lv' := [(3, .int (nI (sm (cl d (k + 1)) 8))), (2, .int (nI (k + 1))), (0, .ref 21), (1, .ref 18)]) rfl rfl (Nat.le_of_ble_eq_true rfl) rfl ?_
              refine r_aload_n rfl rfl ?_
              refine s_getI (x := nI (nts d)) rfl flX2_9 rfl rfl h20 ?_
              refine r_aload_n rfl rfl ?_
              refine s_getI (x := nI (nts d - lf d k)) rfl flX2_15 rfl rfl h21 ?_
              refine n_isub rfl (by omega) ?_
              refine r_top (y := nI (lf d k)) (by rw [show nts d - (nts d - lf d k) = lf d k by omega]) ?_
              refine r_iload_n rfl rfl ?_
              refine n_mmin rfl ma_minLX2_74 ma_minS maI ma_minC rfl rfl (by omega) (by omega) ?_
              refine r_top (y := nI (us d (k + 1))) (by rw [hu]) ?_
              refine r_istore (lv' := [(4, .int (nI (us d (k + 1)))), (3, .int (nI (sm (cl d (k + 1)) 8))), (2, .int (nI (k + 1))), (0, .ref 21), (1, .ref 18)]) rfl (Nat.le_of_ble_eq_true rfl) rfl ?_
              refine r_iload rfl rfl ?_
              refine r_aload_n rfl rfl ?_
              refine s_getR (r := 24) rfl flX2_34 rfl rfl ?_
              refine r_aload_n rfl rfl ?_
              refine s_getR (r := 25) rfl flX2_37 rfl rfl ?_
              refine s_staNV [.int (nI (us d (k + 1))), .ref 24, .ref 25] [] rfl lkX2_80 (c_split_24_25 (by omega) hg3 (by omega)) rfl rfl (Nat.le_refl _) (Nat.le_refl _) ?_
              rintro _ ⟨g4, rfl, hg4⟩
              refine m_mz (L' := [(22, f1), (21, f2), (24, g3), (25, g4)]) (M' := []) rfl rfl ?_
              refine n_iconst 0 rfl ?_
              refine r_istore (lv' := [(5, .int (nI 0)), (4, .int (nI (us d (k + 1)))), (3, .int (nI (sm (cl d (k + 1)) 8))), (2, .int (nI (k + 1))), (0, .ref 21), (1, .ref 18)]) rfl (Nat.le_of_ble_eq_true rfl) rfl ?_
              refine r_lv (lv' := [(5, .int (nI 0)), (0, .ref 21), (1, .ref 18), (2, .int (nI (k + 1))), (3, .int (nI (sm (cl d (k + 1)) 8))), (4, .int (nI (us d (k + 1))))]) [0, 4, 5, 3, 2, 1] rfl ?_
              have loop3 : ∀ (m9_3 : Nat) (i2 : Nat) (e1 : Nat → Int32), 8 - i2 < m9_3 → (i2 ≤ 8) → (∀ j, j < 8 → e1 j = nI (if j < i2 then pk9 d (k + 1) j else pk9 d k j)) → Ws z sc mX2_payDebts 0 0 0 0 83 [(5, .int (nI i2)), (0, .ref 21), (1, .ref 18), (2, .int (nI (k + 1))), (3, .int (nI (sm (cl d (k + 1)) 8))), (4, .int (nI (us d (k + 1))))] [] (mz σ [(22, e1), (21, f2), (24, g3), (25, g4)] []) (RV fun σ' => ∃ f1 f2 f3 f4, σ' = mz σ [(22, f1), (21, f2), (24, f3), (25, f4)] [] ∧ (f2 0 = nI (nts d) ∧ f2 1 = nI (nts d - lf d 5) ∧ f2 2 = nI (du d 5 - (nts d - lf d 5))) ∧ ∀ i, i < 8 → f1 i = nI (pd d i)) := by
                intro m9_3
                induction m9_3 with
                | zero => intro i2 e1 hme; exact absurd hme (Nat.not_lt_zero _)
                | succ m9_3 ih3 =>
                  intro i2 e1 hme hi2 he1
                  refine r_iload rfl rfl ?_
                  refine n_bipush 8 rfl (by decide) ?_
                  refine n_icmp_ge (tgt := 113) rfl rfl (by omega) (by omega) (fun h3 => ?_) (fun h3 => ?_)
                  · refine r_aload_n rfl rfl ?_
                    refine r_dup rfl rfl ?_
                    refine s_getI (x := nI (nts d - lf d k)) rfl flX2_15 rfl rfl h21 ?_
                    refine r_iload rfl rfl ?_
                    refine n_iadd rfl ?_
                    refine m_putI (L' := [(22, e1), (21, (aup f2 1 (nI ((nts d - lf d k) + (us d (k + 1)))))), (24, g3), (25, g4)]) rfl flX2_15 rfl rfl (okv_i _) rfl ?_
                    refine r_aload_n rfl rfl ?_
                    refine r_dup rfl rfl ?_
                    refine s_getI (x := nI (du d k - (nts d - lf d k))) rfl flX2_18 rfl rfl h22 ?_
                    refine r_iload_n rfl rfl ?_
                    refine r_iload rfl rfl ?_
                    refine n_isub rfl (by omega) ?_
                    refine n_iadd rfl ?_
                    refine m_putI (L' := [(22, e1), (21, (aup (aup f2 1 (nI ((nts d - lf d k) + (us d (k + 1))))) 2 (nI ((du d k - (nts d - lf d k)) + ((sm (cl d (k + 1)) 8) - (us d (k + 1))))))), (24, g3), (25, g4)]) rfl flX2_18 rfl rfl (okv_i _) rfl ?_
                    refine n_iinc (lv' := [(2, .int (nI ((k + 1) + 1))), (5, .int (nI i2)), (0, .ref 21), (1, .ref 18), (3, .int (nI (sm (cl d (k + 1)) 8))), (4, .int (nI (us d (k + 1))))]) 1 rfl rfl (Nat.le_of_ble_eq_true rfl) rfl ?_
                    refine r_goto (tgt := 33) rfl rfl ?_
                    refine r_lv (lv' := [(2, .int (nI ((k + 1) + 1))), (0, .ref 21), (1, .ref 18)]) [0, 2, 3] rfl ?_
                    exact ih2 (k + 1) e1 _ g3 g4 (by omega) (by omega) h20 (by show nI _ = _; congr 1; omega) (by show nI _ = _; congr 1; omega) (fun i hi => by rw [he1 i hi, if_pos (by omega)])
                  · refine r_aload_n rfl rfl ?_
                    refine s_getR (r := 22) rfl flX2_27 rfl rfl ?_
                    refine r_iload rfl rfl ?_
                    refine r_dup2 rfl rfl rfl ?_
                    refine s_iald (x := nI (pk9 d k i2)) rfl rfl (by omega) ((he1 i2 (by omega)).trans (congrArg nI (if_neg (Nat.lt_irrefl _)))) ?_
                    refine r_aload_n rfl rfl ?_
                    refine s_getR (r := 25) rfl flX2_37 rfl rfl ?_
                    refine r_iload rfl rfl ?_
                    refine s_iald (x := nI (pr d (k + 1) i2)) rfl rfl (by omega) (hg4 i2 (by omega)) ?_
                    refine n_iadd rfl ?_
                    refine m_iast (L' := [(22, (aup e1 i2 (nI ((pk9 d k i2) + (pr d (k + 1) i2))))), (21, f2), (24, g3), (25, g4)]) rfl rfl (by omega) rfl ?_
                    refine n_iinc (lv' := [(5, .int (nI (i2 + 1))), (0, .ref 21), (1, .ref 18), (2, .int (nI (k + 1))), (3, .int (nI (sm (cl d (k + 1)) 8))), (4, .int (nI (us d (k + 1))))]) 1 rfl rfl (Nat.le_of_ble_eq_true rfl) rfl ?_
                    refine r_goto (tgt := 83) rfl rfl ?_
                    refine r_lv (lv' := [(5, .int (nI (i2 + 1))), (0, .ref 21), (1, .ref 18), (2, .int (nI (k + 1))), (3, .int (nI (sm (cl d (k + 1)) 8))), (4, .int (nI (us d (k + 1))))]) [0, 1, 2, 3, 4, 5] rfl ?_
                    exact ih3 (i2 + 1) _ (by omega) (by omega) (aup_all he1 (by rw [ifs_s, pk9_s hV]) (fun j _ q => by rw [ifs_n q]))
              exact loop3 9 0 f1 (by omega) (by omega) (fun j hj => by rw [if_neg (by omega)]; exact hf1 j hj)
        exact loop2 6 0 f _ (σ.1 24) (σ.1 25) (by omega) (by omega) hN (by show nI 0 = nI (nts d - nts d); rw [Nat.sub_self]) (by show nI 0 = nI (0 - (nts d - nts d)); rw [Nat.zero_sub]) (fun i hi => by rw [hf i (by omega), pk9_0 hV])
      · refine r_aload_n rfl rfl ?_
        refine s_getR (r := 22) rfl flX2_27 rfl rfl ?_
        refine r_iload_n rfl rfl ?_
        refine n_iconst 0 rfl ?_
        refine m_iast (L' := [(22, (aup f i (nI 0)))]) rfl rfl (by omega) rfl ?_
        refine n_iinc (lv' := [(2, .int (nI (i + 1))), (0, .ref 21), (1, .ref 18)]) 1 rfl rfl (Nat.le_of_ble_eq_true rfl) rfl ?_
        refine r_goto (tgt := 2) rfl rfl ?_
        refine r_lv (lv' := [(2, .int (nI (i + 1))), (0, .ref 21), (1, .ref 18)]) [0, 1, 2] rfl ?_
        exact ih (i + 1) _ (by omega) (by omega) (aup_lt hf rfl)
  exact loop 9 0 _ (by omega) (by omega) (fun j hj => absurd hj (Nat.not_lt_zero _))

theorem c_payLeg_A {z : SZ} {sc : SC} {σ : SS} {d : D} (hS : SR (σ.1 19) d) (hE : EE σ d) (hV : Vd d) (hN : σ.1 21 0 = nI (nts d)) (hM : σ.1 21 1 = nI (nts d - lf d 5)) : Cs z sc mX2_payLegacies 0 0 [.ref 21, .ref 12, .ref 18] σ (RV fun σ' => ∃ f2 f3 f4, σ' = mz σ [(24, f3), (21, f2), (23, f4)] [] ∧ (f2 0 = nI (nts d) ∧ f2 1 = nI (nts d - lf d 5) ∧ f2 2 = σ.1 21 2 ∧ f2 3 = nI (lu9 d) ∧ f2 4 = nI (rs d)) ∧ ∀ i, i < 8 → f4 i = nI (lp d i)) := by
  refine Cs.of gmX2_payLegacies (Nat.le_of_ble_eq_true rfl) ?_
  show Ws z sc mX2_payLegacies 0 0 0 0 0 [(0, .ref 21), (1, .ref 12), (2, .ref 18)] [] (mz σ [] []) (RV fun σ' => ∃ f2 f3 f4, σ' = mz σ [(24, f3), (21, f2), (23, f4)] [] ∧ (f2 0 = nI (nts d) ∧ f2 1 = nI (nts d - lf d 5) ∧ f2 2 = σ.1 21 2 ∧ f2 3 = nI (lu9 d) ∧ f2 4 = nI (rs d)) ∧ ∀ i, i < 8 → f4 i = nI (lp d i))
  have hNb := nts_le hV (vC hV).2.1
  have hNe : sm (nt d) (d 0 1) = nts d := rfl
  rw [hNe] at hNb
  have hC := vC hV
  have hl := lf_le d 5
  have hls := lcs_le hV
  refine n_iconst 0 rfl ?_
  refine r_istore_n (lv' := [(3, .int (nI 0)), (0, .ref 21), (1, .ref 12), (2, .ref 18)]) rfl rfl (Nat.le_of_ble_eq_true rfl) rfl ?_
  refine r_lv (lv' := [(3, .int (nI 0)), (0, .ref 21), (1, .ref 12), (2, .ref 18)]) [0, 1, 2, 3] rfl ?_
  refine m_newI (L' := [(24, (σ.1 24))]) 24 rfl ?_
  have loop : ∀ (m9 : Nat) (i : Nat) (f : Nat → Int32), 8 - i < m9 → (i ≤ 8) → (∀ j, j < i → f j = nI (lc d j)) → Ws z sc mX2_payLegacies 0 0 0 0 2 [(3, .int (nI i)), (0, .ref 21), (1, .ref 12), (2, .ref 18)] [] (mz σ [(24, f)] []) (RV fun σ' => ∃ f2 f3 f4, σ' = mz σ [(24, f3), (21, f2), (23, f4)] [] ∧ (f2 0 = nI (nts d) ∧ f2 1 = nI (nts d - lf d 5) ∧ f2 2 = σ.1 21 2 ∧ f2 3 = nI (lu9 d) ∧ f2 4 = nI (rs d)) ∧ ∀ i, i < 8 → f4 i = nI (lp d i)) := by
    intro m9
    induction m9 with
    | zero => intro i f hme; exact absurd hme (Nat.not_lt_zero _)
    | succ m9 ih =>
      intro i f hme hi hf
      have hL := vL hV i
      refine r_iload_n rfl rfl ?_
      refine n_bipush 8 rfl (by decide) ?_
      refine n_icmp_ge (tgt := 67) rfl rfl (by omega) (by omega) (fun h1 => ?_) (fun h1 => ?_)
      · have hfs : ∀ j, j < 8 → f j = nI (lc d j) := fun j hj => hf j (by omega)
        refine r_aload_n rfl rfl ?_
        refine r_aload_n rfl rfl ?_
        refine s_getI (x := nI (nts d)) rfl flX2_9 rfl rfl hN ?_
        refine r_aload_n rfl rfl ?_
        refine s_getI (x := nI (nts d - lf d 5)) rfl flX2_15 rfl rfl hM ?_
        refine n_isub rfl (by omega) ?_
        refine r_top (y := nI (lf d 5)) (by rw [show nts d - (nts d - lf d 5) = lf d 5 by omega]) ?_
        refine r_aload_n rfl rfl ?_
        refine s_getR (r := 24) rfl flX2_34 rfl rfl ?_
        refine s_staNI [.ref 24] [.int (nI (lf d 5)), .ref 21] rfl lkX2_70 (c_sumOf_24 hfs) rfl rfl (Nat.le_refl _) (Nat.le_refl _) (rI (e1 := nI (sm (lc d) 8)) rfl ?_)
        refine n_mmin rfl ma_minLX2_74 ma_minS maI ma_minC rfl rfl (by omega) (by omega) ?_
        refine r_top (y := nI (lu9 d)) rfl ?_
        have hlu : lu9 d ≤ lf d 5 := Nat.min_le_left _ _
        refine m_putI (L' := [(24, f), (21, (aup (σ.1 21) 3 (nI (lu9 d))))]) rfl flX2_21 rfl rfl (okv_i _) rfl ?_
        refine r_aload_n rfl rfl ?_
        refine s_getI (x := nI (lu9 d)) rfl flX2_21 rfl rfl rfl ?_
        refine r_aload_n rfl rfl ?_
        refine s_getR (r := 24) rfl flX2_34 rfl rfl ?_
        refine r_aload_n rfl rfl ?_
        refine s_getR (r := 23) rfl flX2_31 rfl rfl ?_
        refine s_staNV [.int (nI (lu9 d)), .ref 24, .ref 23] [] rfl lkX2_80 (c_split_24_23 (by omega) hfs (by omega)) rfl rfl (Nat.le_refl _) (Nat.le_refl _) ?_
        rintro _ ⟨f4, rfl, hf4⟩
        refine m_mz (L' := [(24, f), (21, (aup (σ.1 21) 3 (nI (lu9 d)))), (23, f4)]) (M' := []) rfl rfl ?_
        refine r_aload_n rfl rfl ?_
        refine r_aload_n rfl rfl ?_
        refine s_getI (x := nI (nts d)) rfl flX2_9 rfl rfl hN ?_
        refine r_aload_n rfl rfl ?_
        refine s_getI (x := nI (nts d - lf d 5)) rfl flX2_15 rfl rfl hM ?_
        refine n_isub rfl (by omega) ?_
        refine r_aload_n rfl rfl ?_
        refine s_getI (x := nI (lu9 d)) rfl flX2_21 rfl rfl rfl ?_
        refine n_isub rfl (by omega) ?_
        refine r_top (y := nI (rs d)) (by rw [show nts d - (nts d - lf d 5) - lu9 d = rs d by unfold rs; omega]) ?_
        refine m_putI (L' := [(24, f), (21, (aup (aup (σ.1 21) 3 (nI (lu9 d))) 4 (nI (rs d)))), (23, f4)]) rfl flX2_24 rfl rfl (okv_i _) rfl ?_
        exact s_vret (st := []) rfl rfl (Nat.zero_le _) (Nat.zero_le _) (⟨rfl, _, f, f4, rfl, ⟨hN, hM, rfl, rfl, rfl⟩, hf4⟩)
      · refine r_iload_n rfl rfl ?_
        refine r_aload_n rfl rfl ?_
        refine s_getI (x := nI (d 0 4)) rfl flX2_94 rfl rfl hE.1.2.2.2.1 ?_
        suffices K : Ws z sc mX2_payLegacies 0 0 0 0 36 [(3, .int (nI i)), (0, .ref 21), (1, .ref 12), (2, .ref 18)] [.int (nI (tb (decide (i < d 0 4 ∧ tk d (d 11 i) = true))))] (mz σ [(24, f)] []) (RV fun σ' => ∃ f2 f3 f4, σ' = mz σ [(24, f3), (21, f2), (23, f4)] [] ∧ (f2 0 = nI (nts d) ∧ f2 1 = nI (nts d - lf d 5) ∧ f2 2 = σ.1 21 2 ∧ f2 3 = nI (lu9 d) ∧ f2 4 = nI (rs d)) ∧ ∀ i, i < 8 → f4 i = nI (lp d i)) by
          refine n_icmp_ge (tgt := 35) rfl rfl (by omega) (by omega) (fun h2 => ?_) (fun h2 => ?_)
          · refine n_iconst 0 rfl ?_
            exact r_top (by rw [decide_eq_false (by omega)]; rfl) K
          · refine r_aload_n rfl rfl ?_
            refine r_aload_n rfl rfl ?_
            refine s_getR (r := 16) rfl flX2_97 rfl rfl ?_
            refine r_iload_n rfl rfl ?_
            refine s_staNI [.ref 16, .int (nI i)] [.ref 18] rfl lkX2_51 (c_at_16 (by omega) (hE.2.2.2.1 i h2)) rfl rfl (Nat.le_refl _) (Nat.le_refl _) (rI (e1 := nI (d 11 i)) rfl ?_)
            refine s_virI [.int (nI (d 11 i))] [] rfl lkX2_100 rfl rfl rfl (c_takes_18 hS hV (by omega)) rfl rfl (Nat.le_refl _) (Nat.le_refl _) rfl (rI (e1 := nI (tb (tk d (d 11 i)))) rfl ?_)
            have ht2 := tb_le (tk d (d 11 i))
            refine n_if_eq (tgt := 35) rfl rfl (by omega) (fun h3 => ?_) (fun h3 => ?_)
            · refine n_iconst 0 rfl ?_
              exact r_top (by rw [decide_eq_false (fun q => by rw [q.2] at h3; exact absurd h3 (by decide))]; rfl) K
            · refine n_iconst 1 rfl ?_
              refine r_goto (tgt := 36) rfl rfl ?_
              exact r_top (by rw [decide_eq_true ⟨h2, tb_ne h3⟩]; rfl) K
        have hT := tb_le (decide (i < d 0 4 ∧ tk d (d 11 i) = true))
        refine r_istore (lv' := [(4, .int (nI (tb (decide (i < d 0 4 ∧ tk d (d 11 i) = true))))), (3, .int (nI i)), (0, .ref 21), (1, .ref 12), (2, .ref 18)]) rfl (Nat.le_of_ble_eq_true rfl) rfl ?_
        refine r_aload_n rfl rfl ?_
        refine s_getR (r := 24) rfl flX2_34 rfl rfl ?_
        refine r_iload_n rfl rfl ?_
        refine r_iload rfl rfl ?_
        suffices K : Ws z sc mX2_payLegacies 0 0 0 0 60 [(4, .int (nI (tb (decide (i < d 0 4 ∧ tk d (d 11 i) = true))))), (3, .int (nI i)), (0, .ref 21), (1, .ref 12), (2, .ref 18)] [.int (nI (lc d i)), .int (nI i), .ref 24] (mz σ [(24, f)] []) (RV fun σ' => ∃ f2 f3 f4, σ' = mz σ [(24, f3), (21, f2), (23, f4)] [] ∧ (f2 0 = nI (nts d) ∧ f2 1 = nI (nts d - lf d 5) ∧ f2 2 = σ.1 21 2 ∧ f2 3 = nI (lu9 d) ∧ f2 4 = nI (rs d)) ∧ ∀ i, i < 8 → f4 i = nI (lp d i)) by
          refine n_if_eq (tgt := 59) rfl rfl (by omega) (fun h4 => ?_) (fun h4 => ?_)
          · refine n_iconst 0 rfl ?_
            exact r_top (by unfold lc; rw [if_neg (of_decide_eq_false (tb_z h4))]) K
          · have h5 := of_decide_eq_true (tb_ne h4)
            refine r_aload_n rfl rfl ?_
            refine s_getR (r := 17) rfl flX2_104 rfl rfl ?_
            refine r_iload_n rfl rfl ?_
            refine s_staNI [.ref 17, .int (nI i)] [.int (nI i), .ref 24] rfl lkX2_51 (c_at_17 (by omega) (hE.2.2.2.2 i h5.1)) rfl rfl (Nat.le_refl _) (Nat.le_refl _) (rI (e1 := nI (d 12 i)) rfl ?_)
            refine r_goto (tgt := 60) rfl rfl ?_
            exact r_top (by unfold lc; rw [if_pos h5]) K
        refine m_iast (L' := [(24, (aup f i (nI (lc d i))))]) rfl rfl (by omega) rfl ?_
        refine n_iinc (lv' := [(3, .int (nI (i + 1))), (4, .int (nI (tb (decide (i < d 0 4 ∧ tk d (d 11 i) = true))))), (0, .ref 21), (1, .ref 12), (2, .ref 18)]) 1 rfl rfl (Nat.le_of_ble_eq_true rfl) rfl ?_
        refine r_goto (tgt := 2) rfl rfl ?_
        refine r_lv (lv' := [(3, .int (nI (i + 1))), (0, .ref 21), (1, .ref 12), (2, .ref 18)]) [0, 2, 3, 4] rfl ?_
        exact ih (i + 1) _ (by omega) (by omega) (aup_lt hf rfl)
  exact loop 9 0 _ (by omega) (by omega) (fun j hj => absurd hj (Nat.not_lt_zero _))

theorem c_netValue_B {z : SZ} {sc : SC} {σ : SS} {d : D} {a : Nat} (hS : SR (σ.1 35) d) (hE : EE σ d) (hV : Vd d) (ha : a < d 0 1) : Cs z sc mX2_netValue 0 0 [.ref 12, .ref 34, .int (nI a)] σ (PI (nI (nt d a)) σ) := by
  refine Cs.of gmX2_netValue (Nat.le_of_ble_eq_true rfl) ?_
  show Ws z sc mX2_netValue 0 0 0 0 0 [(0, .ref 12), (1, .ref 34), (2, .int (nI a))] [] (mz σ [] []) (PI (nI (nt d a)) σ)
  have hC := vC hV
  have hA := vV hV a
  refine r_aload_n rfl rfl ?_
  refine r_iload_n rfl rfl ?_
  refine s_virI [.int (nI a)] [] rfl lkX2_40 rfl rfl rfl (c_value_34 hS (by omega)) rfl rfl (Nat.le_refl _) (Nat.le_refl _) rfl (rI (e1 := nI (d 5 a)) rfl ?_)
  refine r_istore_n (lv' := [(3, .int (nI (d 5 a))), (0, .ref 12), (1, .ref 34), (2, .int (nI a))]) rfl rfl (Nat.le_of_ble_eq_true rfl) rfl ?_
  refine r_iload_n rfl rfl ?_
  refine r_iload_n rfl rfl ?_
  refine r_aload_n rfl rfl ?_
  refine s_getR (r := 15) rfl flX2_46 rfl rfl ?_
  refine r_iload_n rfl rfl ?_
  refine s_staNI [.ref 15, .int (nI a)] [.int (nI (d 5 a)), .int (nI (d 5 a))] rfl lkX2_51 (c_at_15 (by omega) (hE.2.2.1 a ha)) rfl rfl (Nat.le_refl _) (Nat.le_refl _) (rI (e1 := nI (d 6 a)) rfl ?_)
  refine n_bipush 100 rfl (by decide) ?_
  refine s_staNI [.int (nI (d 5 a)), .int (nI (d 6 a)), .int (nI 100)] [.int (nI (d 5 a))] rfl lkX2_55 (c_portion (by omega) (by omega) (by omega)) rfl rfl (Nat.le_refl _) (Nat.le_refl _) (rI (e1 := nI (d 5 a * d 6 a / 100)) rfl ?_)
  refine n_isub rfl (nt_sub hV a) ?_
  exact s_ret (st := []) rfl rfl rfl (Nat.zero_le _) (Nat.zero_le _) (pI rfl rfl)

theorem c_addUp_B {z : SZ} {sc : SC} {σ : SS} {d : D} (hS : SR (σ.1 35) d) (hE : EE σ d) (hV : Vd d) : Cs z sc mX2_addUpAssets 0 0 [.ref 37, .ref 12, .ref 34] σ (RV fun σ' => ∃ f, σ' = mz σ [(37, f)] [] ∧ f 0 = nI (nts d)) := by
  refine Cs.of gmX2_addUpAssets (Nat.le_of_ble_eq_true rfl) ?_
  show Ws z sc mX2_addUpAssets 0 0 0 0 0 [(0, .ref 37), (1, .ref 12), (2, .ref 34)] [] (mz σ [] []) (RV fun σ' => ∃ f, σ' = mz σ [(37, f)] [] ∧ f 0 = nI (nts d))
  have hC := vC hV
  refine r_aload_n rfl rfl ?_
  refine n_iconst 0 rfl ?_
  refine m_putI (L' := [(37, (aup (σ.1 37) 0 (nI 0)))]) rfl flX2_9 rfl rfl (okv_i _) rfl ?_
  refine n_iconst 0 rfl ?_
  refine r_istore_n (lv' := [(3, .int (nI 0)), (0, .ref 37), (1, .ref 12), (2, .ref 34)]) rfl rfl (Nat.le_of_ble_eq_true rfl) rfl ?_
  refine r_lv (lv' := [(3, .int (nI 0)), (0, .ref 37), (1, .ref 12), (2, .ref 34)]) [0, 1, 2, 3] rfl ?_
  have loop : ∀ (m9 : Nat) (a : Nat) (f : Nat → Int32), d 0 1 - a < m9 → (a ≤ d 0 1) → (f 0 = nI (sm (nt d) a)) → Ws z sc mX2_addUpAssets 0 0 0 0 7 [(3, .int (nI a)), (0, .ref 37), (1, .ref 12), (2, .ref 34)] [] (mz σ [(37, f)] []) (RV fun σ' => ∃ f, σ' = mz σ [(37, f)] [] ∧ f 0 = nI (nts d)) := by
    intro m9
    induction m9 with
    | zero => intro a f hme; exact absurd hme (Nat.not_lt_zero _)
    | succ m9 ih =>
      intro a f hme ha hf
      refine r_iload_n rfl rfl ?_
      refine r_aload_n rfl rfl ?_
      refine s_getI (x := nI (d 0 1)) rfl flX2_59 rfl rfl hE.1.2.2.1 ?_
      refine n_icmp_ge (tgt := 36) rfl rfl (by omega) (by omega) (fun h1 => ?_) (fun h1 => ?_)
      · exact s_vret (st := []) rfl rfl (Nat.zero_le _) (Nat.zero_le _) (⟨rfl, f, rfl, by rw [hf, show a = d 0 1 by omega]; rfl⟩)
      · refine r_aload_n rfl rfl ?_
        refine r_dup rfl rfl ?_
        refine s_getI (x := nI (sm (nt d) a)) rfl flX2_9 rfl rfl hf ?_
        refine r_aload_n rfl rfl ?_
        refine r_aload_n rfl rfl ?_
        refine r_iload_n rfl rfl ?_
        refine s_staI [.ref 12, .ref 34, .int (nI a)] [.int (nI (sm (nt d) a)), .ref 37] rfl lkX2_62 (c_netValue_B hS hE hV (by omega)) rfl rfl (Nat.le_refl _) (Nat.le_refl _) rfl (rI (e1 := nI (nt d a)) rfl ?_)
        refine n_iadd rfl ?_
        refine m_putI (L' := [(37, (aup f 0 (nI ((sm (nt d) a) + (nt d a)))))]) rfl flX2_9 rfl rfl (okv_i _) rfl ?_
        refine n_iinc (lv' := [(3, .int (nI (a + 1))), (0, .ref 37), (1, .ref 12), (2, .ref 34)]) 1 rfl rfl (Nat.le_of_ble_eq_true rfl) rfl ?_
        refine r_goto (tgt := 7) rfl rfl ?_
        refine r_lv (lv' := [(3, .int (nI (a + 1))), (0, .ref 37), (1, .ref 12), (2, .ref 34)]) [0, 1, 2, 3] rfl ?_
        exact ih (a + 1) _ (by omega) (by omega) (aup_s _ _ _)
  exact loop (d 0 1 + 1) 0 _ (by omega) (by omega) (aup_s _ _ _)

theorem c_claim_B {z : SZ} {sc : SC} {σ : SS} {d : D} {q : Nat} (hS : SR (σ.1 35) d) (hV : Vd d) (hq : q ≤ 5) : Cs z sc mX2_claimDebts 0 0 [.ref 37, .ref 34, .int (nI q)] σ (RV fun σ' => ∃ f, σ' = mz σ [(40, f)] [] ∧ ∀ i, i < 8 → f i = nI (cl d q i)) := by
  refine Cs.of gmX2_claimDebts (Nat.le_of_ble_eq_true rfl) ?_
  show Ws z sc mX2_claimDebts 0 0 0 0 0 [(0, .ref 37), (1, .ref 34), (2, .int (nI q))] [] (mz σ [] []) (RV fun σ' => ∃ f, σ' = mz σ [(40, f)] [] ∧ ∀ i, i < 8 → f i = nI (cl d q i))
  have hC := vC hV
  refine n_iconst 0 rfl ?_
  refine r_istore_n (lv' := [(3, .int (nI 0)), (0, .ref 37), (1, .ref 34), (2, .int (nI q))]) rfl rfl (Nat.le_of_ble_eq_true rfl) rfl ?_
  refine r_lv (lv' := [(3, .int (nI 0)), (0, .ref 37), (1, .ref 34), (2, .int (nI q))]) [0, 1, 2, 3] rfl ?_
  refine m_newI (L' := [(40, (σ.1 40))]) 40 rfl ?_
  have loop : ∀ (m9 : Nat) (i : Nat) (f : Nat → Int32), 8 - i < m9 → (i ≤ 8) → (∀ j, j < i → f j = nI (cl d q j)) → Ws z sc mX2_claimDebts 0 0 0 0 2 [(3, .int (nI i)), (0, .ref 37), (1, .ref 34), (2, .int (nI q))] [] (mz σ [(40, f)] []) (RV fun σ' => ∃ f, σ' = mz σ [(40, f)] [] ∧ ∀ i, i < 8 → f i = nI (cl d q i)) := by
    intro m9
    induction m9 with
    | zero => intro i f hme; exact absurd hme (Nat.not_lt_zero _)
    | succ m9 ih =>
      intro i f hme hi hf
      have hD := vD hV i
      refine r_iload_n rfl rfl ?_
      refine n_bipush 8 rfl (by decide) ?_
      refine n_icmp_ge (tgt := 58) rfl rfl (by omega) (by omega) (fun h1 => ?_) (fun h1 => ?_)
      · exact s_vret (st := []) rfl rfl (Nat.zero_le _) (Nat.zero_le _) (⟨rfl, f, rfl, fun j hj => hf j (by omega)⟩)
      · refine r_iload_n rfl rfl ?_
        refine r_aload_n rfl rfl ?_
        refine s_virI [] [.int (nI i)] rfl lkX2_84 rfl rfl rfl (c_debtCount_34 hS) rfl rfl (Nat.le_refl _) (Nat.le_refl _) rfl (rI (e1 := nI (d 0 2)) rfl ?_)
        suffices K : Ws z sc mX2_claimDebts 0 0 0 0 30 [(3, .int (nI i)), (0, .ref 37), (1, .ref 34), (2, .int (nI q))] [.int (nI (tb (decide (i < d 0 2 ∧ d 7 i = q))))] (mz σ [(40, f)] []) (RV fun σ' => ∃ f, σ' = mz σ [(40, f)] [] ∧ ∀ i, i < 8 → f i = nI (cl d q i)) by
          refine n_icmp_ge (tgt := 29) rfl rfl (by omega) (by omega) (fun h2 => ?_) (fun h2 => ?_)
          · refine n_iconst 0 rfl ?_
            exact r_top (by rw [decide_eq_false (by omega)]; rfl) K
          · refine r_aload_n rfl rfl ?_
            refine r_iload_n rfl rfl ?_
            refine s_virI [.int (nI i)] [] rfl lkX2_88 rfl rfl rfl (c_debtRank_34 hS (by omega)) rfl rfl (Nat.le_refl _) (Nat.le_refl _) rfl (rI (e1 := nI (d 7 i)) rfl ?_)
            refine r_iload_n rfl rfl ?_
            refine n_icmp_ne (tgt := 29) rfl rfl (by omega) (by omega) (fun h3 => ?_) (fun h3 => ?_)
            · refine n_iconst 0 rfl ?_
              exact r_top (by rw [decide_eq_false (by omega)]; rfl) K
            · refine n_iconst 1 rfl ?_
              refine r_goto (tgt := 30) rfl rfl ?_
              exact r_top (by rw [decide_eq_true (by omega)]; rfl) K
        have hT := tb_le (decide (i < d 0 2 ∧ d 7 i = q))
        refine r_istore (lv' := [(4, .int (nI (tb (decide (i < d 0 2 ∧ d 7 i = q))))), (3, .int (nI i)), (0, .ref 37), (1, .ref 34), (2, .int (nI q))]) rfl (Nat.le_of_ble_eq_true rfl) rfl ?_
        refine r_aload_n rfl rfl ?_
        refine s_getR (r := 40) rfl flX2_34 rfl rfl ?_
        refine r_iload_n rfl rfl ?_
        refine r_iload rfl rfl ?_
        suffices K : Ws z sc mX2_claimDebts 0 0 0 0 51 [(4, .int (nI (tb (decide (i < d 0 2 ∧ d 7 i = q))))), (3, .int (nI i)), (0, .ref 37), (1, .ref 34), (2, .int (nI q))] [.int (nI (cl d q i)), .int (nI i), .ref 40] (mz σ [(40, f)] []) (RV fun σ' => ∃ f, σ' = mz σ [(40, f)] [] ∧ ∀ i, i < 8 → f i = nI (cl d q i)) by
          refine n_if_eq (tgt := 50) rfl rfl (by omega) (fun h4 => ?_) (fun h4 => ?_)
          · refine n_iconst 0 rfl ?_
            exact r_top (by unfold cl; rw [if_neg (of_decide_eq_false (tb_z h4))]) K
          · refine r_aload_n rfl rfl ?_
            refine r_iload_n rfl rfl ?_
            refine s_virI [.int (nI i)] [.int (nI i), .ref 40] rfl lkX2_91 rfl rfl rfl (c_debtAmount_34 hS (by omega)) rfl rfl (Nat.le_refl _) (Nat.le_refl _) rfl (rI (e1 := nI (d 8 i)) rfl ?_)
            refine r_goto (tgt := 51) rfl rfl ?_
            exact r_top (by unfold cl; rw [if_pos (of_decide_eq_true (tb_ne h4))]) K
        refine m_iast (L' := [(40, (aup f i (nI (cl d q i))))]) rfl rfl (by omega) rfl ?_
        refine n_iinc (lv' := [(3, .int (nI (i + 1))), (4, .int (nI (tb (decide (i < d 0 2 ∧ d 7 i = q))))), (0, .ref 37), (1, .ref 34), (2, .int (nI q))]) 1 rfl rfl (Nat.le_of_ble_eq_true rfl) rfl ?_
        refine r_goto (tgt := 2) rfl rfl ?_
        refine r_lv (lv' := [(3, .int (nI (i + 1))), (0, .ref 37), (1, .ref 34), (2, .int (nI q))]) [0, 2, 3, 4] rfl ?_
        exact ih (i + 1) _ (by omega) (by omega) (aup_lt hf rfl)
  exact loop 9 0 _ (by omega) (by omega) (fun j hj => absurd hj (Nat.not_lt_zero _))

theorem c_payDebts_B {z : SZ} {sc : SC} {σ : SS} {d : D} (hS : SR (σ.1 35) d) (hV : Vd d) (hN : σ.1 37 0 = nI (nts d)) : Cs z sc mX2_payDebts 0 0 [.ref 37, .ref 34] σ (RV fun σ' => ∃ f1 f2 f3 f4, σ' = mz σ [(38, f1), (37, f2), (40, f3), (41, f4)] [] ∧ (f2 0 = nI (nts d) ∧ f2 1 = nI (nts d - lf d 5) ∧ f2 2 = nI (du d 5 - (nts d - lf d 5))) ∧ ∀ i, i < 8 → f1 i = nI (pd d i)) := by
  refine Cs.of gmX2_payDebts (Nat.le_of_ble_eq_true rfl) ?_
  show Ws z sc mX2_payDebts 0 0 0 0 0 [(0, .ref 37), (1, .ref 34)] [] (mz σ [] []) (RV fun σ' => ∃ f1 f2 f3 f4, σ' = mz σ [(38, f1), (37, f2), (40, f3), (41, f4)] [] ∧ (f2 0 = nI (nts d) ∧ f2 1 = nI (nts d - lf d 5) ∧ f2 2 = nI (du d 5 - (nts d - lf d 5))) ∧ ∀ i, i < 8 → f1 i = nI (pd d i))
  have hNb := nts_le hV (vC hV).2.1
  have hNe : sm (nt d) (d 0 1) = nts d := rfl
  rw [hNe] at hNb
  refine n_iconst 0 rfl ?_
  refine r_istore_n (lv' := [(2, .int (nI 0)), (0, .ref 37), (1, .ref 34)]) rfl rfl (Nat.le_of_ble_eq_true rfl) rfl ?_
  refine r_lv (lv' := [(2, .int (nI 0)), (0, .ref 37), (1, .ref 34)]) [0, 1, 2] rfl ?_
  refine m_newI (L' := [(38, (σ.1 38))]) 38 rfl ?_
  have loop : ∀ (m9 : Nat) (i : Nat) (f : Nat → Int32), 8 - i < m9 → (i ≤ 8) → (∀ j, j < i → f j = nI 0) → Ws z sc mX2_payDebts 0 0 0 0 2 [(2, .int (nI i)), (0, .ref 37), (1, .ref 34)] [] (mz σ [(38, f)] []) (RV fun σ' => ∃ f1 f2 f3 f4, σ' = mz σ [(38, f1), (37, f2), (40, f3), (41, f4)] [] ∧ (f2 0 = nI (nts d) ∧ f2 1 = nI (nts d - lf d 5) ∧ f2 2 = nI (du d 5 - (nts d - lf d 5))) ∧ ∀ i, i < 8 → f1 i = nI (pd d i)) := by
    intro m9
    induction m9 with
    | zero => intro i f hme; exact absurd hme (Nat.not_lt_zero _)
    | succ m9 ih =>
      intro i f hme hi hf
      refine r_iload_n rfl rfl ?_
      refine n_bipush 8 rfl (by decide) ?_
      refine n_icmp_ge (tgt := 21) rfl rfl (by omega) (by omega) (fun h1 => ?_) (fun h1 => ?_)
      · refine r_aload_n rfl rfl ?_
        refine n_iconst 0 rfl ?_
        refine m_putI (L' := [(38, f), (37, (aup (σ.1 37) 1 (nI 0)))]) rfl flX2_15 rfl rfl (okv_i _) rfl ?_
        refine r_aload_n rfl rfl ?_
        refine n_iconst 0 rfl ?_
        refine m_putI (L' := [(38, f), (37, (aup (aup (σ.1 37) 1 (nI 0)) 2 (nI 0)))]) rfl flX2_18 rfl rfl (okv_i _) rfl ?_
        refine n_iconst 1 rfl ?_
        refine r_istore_n (lv' := [(2, .int (nI 1)), (0, .ref 37), (1, .ref 34)]) rfl rfl (Nat.le_of_ble_eq_true rfl) rfl ?_
        refine r_lv (lv' := [(2, .int (nI 1)), (0, .ref 37), (1, .ref 34)]) [0, 1, 2] rfl ?_
        refine m_newI (L' := [(38, f), (37, (aup (aup (σ.1 37) 1 (nI 0)) 2 (nI 0))), (40, (σ.1 40))]) 40 rfl ?_
        refine m_newI (L' := [(38, f), (37, (aup (aup (σ.1 37) 1 (nI 0)) 2 (nI 0))), (40, (σ.1 40)), (41, (σ.1 41))]) 41 rfl ?_
        have loop2 : ∀ (m9_2 : Nat) (k : Nat) (f1 f2 f3 f4 : Nat → Int32), 5 - k < m9_2 → (k ≤ 5) → (f2 0 = nI (nts d)) → (f2 1 = nI (nts d - lf d k)) → (f2 2 = nI (du d k - (nts d - lf d k))) → (∀ i, i < 8 → f1 i = nI (pk9 d k i)) → Ws z sc mX2_payDebts 0 0 0 0 33 [(2, .int (nI (k + 1))), (0, .ref 37), (1, .ref 34)] [] (mz σ [(38, f1), (37, f2), (40, f3), (41, f4)] []) (RV fun σ' => ∃ f1 f2 f3 f4, σ' = mz σ [(38, f1), (37, f2), (40, f3), (41, f4)] [] ∧ (f2 0 = nI (nts d) ∧ f2 1 = nI (nts d - lf d 5) ∧ f2 2 = nI (du d 5 - (nts d - lf d 5))) ∧ ∀ i, i < 8 → f1 i = nI (pd d i)) := by
          intro m9_2
          induction m9_2 with
          | zero => intro k f1 f2 f3 f4 hme; exact absurd hme (Nat.not_lt_zero _)
          | succ m9_2 ih2 =>
            intro k f1 f2 f3 f4 hme hk h20 h21 h22 hf1
            have hl := lf_le d k
            have hcs := cls_le hV (k + 1)
            have hu := us_s d k
            have hdu := du_un d k
            have hls : lf d (k + 1) = lf d k - min (lf d k) (sm (cl d (k + 1)) 8) := rfl
            have hds : du d (k + 1) = du d k + sm (cl d (k + 1)) 8 := rfl
            have hdb := du_le hV hk
            refine r_iload_n rfl rfl ?_
            refine n_iconst 5 rfl ?_
            refine n_icmp_gt (tgt := 143) rfl rfl (by omega) (by omega) (fun h2 => ?_) (fun h2 => ?_)
            · have hk5 : k = 5 := by omega
              rw [hk5] at h21 h22 hf1
              exact s_vret (st := []) rfl rfl (Nat.zero_le _) (Nat.zero_le _) (⟨rfl, f1, f2, f3, f4, rfl, ⟨h20, h21, h22⟩, fun i hi => by rw [hf1 i hi, pk9_5 hV]⟩)
            · refine r_aload_n rfl rfl ?_
              refine r_aload_n rfl rfl ?_
              refine r_iload_n rfl rfl ?_
              refine s_virV [.ref 34, .int (nI (k + 1))] [] rfl lkX2_66 rfl rfl rfl (c_claim_B hS hV (by omega)) rfl rfl (Nat.le_refl _) (Nat.le_refl _) rfl ?_
              rintro _ ⟨g3, rfl, hg3⟩
              refine m_mz (L' := [(38, f1), (37, f2), (40, g3), (41, f4)]) (M' := []) rfl rfl ?_
              refine r_aload_n rfl rfl ?_
              refine s_getR (r := 40) rfl flX2_34 rfl rfl ?_
              refine s_staNI [.ref 40] [] rfl lkX2_70 (c_sumOf_40 hg3) rfl rfl (Nat.le_refl _) (Nat.le_refl _) (rI (e1 := nI (sm (cl d (k + 1)) 8)) rfl ?_)
              refine r_istore_n (lv' := [(3, .int (nI (sm (cl d (k + 1)) 8))), (2, .int (nI (k + 1))), (0, .ref 37), (1, .ref 34)]) rfl rfl (Nat.le_of_ble_eq_true rfl) rfl ?_
              refine r_aload_n rfl rfl ?_
              refine s_getI (x := nI (nts d)) rfl flX2_9 rfl rfl h20 ?_
              refine r_aload_n rfl rfl ?_
              refine s_getI (x := nI (nts d - lf d k)) rfl flX2_15 rfl rfl h21 ?_
              refine n_isub rfl (by omega) ?_
              refine r_top (y := nI (lf d k)) (by rw [show nts d - (nts d - lf d k) = lf d k by omega]) ?_
              refine r_iload_n rfl rfl ?_
              refine n_mmin rfl ma_minLX2_74 ma_minS maI ma_minC rfl rfl (by omega) (by omega) ?_
              refine r_top (y := nI (us d (k + 1))) (by rw [hu]) ?_
              refine r_istore (lv' := [(4, .int (nI (us d (k + 1)))), (3, .int (nI (sm (cl d (k + 1)) 8))), (2, .int (nI (k + 1))), (0, .ref 37), (1, .ref 34)]) rfl (Nat.le_of_ble_eq_true rfl) rfl ?_
              refine r_iload rfl rfl ?_
              refine r_aload_n rfl rfl ?_
              refine s_getR (r := 40) rfl flX2_34 rfl rfl ?_
              refine r_aload_n rfl rfl ?_
              refine s_getR (r := 41) rfl flX2_37 rfl rfl ?_
              refine s_staNV [.int (nI (us d (k + 1))), .ref 40, .ref 41] [] rfl lkX2_80 (c_split_40_41 (by omega) hg3 (by omega)) rfl rfl (Nat.le_refl _) (Nat.le_refl _) ?_
              rintro _ ⟨g4, rfl, hg4⟩
              refine m_mz (L' := [(38, f1), (37, f2), (40, g3), (41, g4)]) (M' := []) rfl rfl ?_
              refine n_iconst 0 rfl ?_
              refine r_istore (lv' := [(5, .int (nI 0)), (4, .int (nI (us d (k + 1)))), (3, .int (nI (sm (cl d (k + 1)) 8))), (2, .int (nI (k + 1))), (0, .ref 37), (1, .ref 34)]) rfl (Nat.le_of_ble_eq_true rfl) rfl ?_
              refine r_lv (lv' := [(5, .int (nI 0)), (0, .ref 37), (1, .ref 34), (2, .int (nI (k + 1))), (3, .int (nI (sm (cl d (k + 1)) 8))), (4, .int (nI (us d (k + 1))))]) [0, 4, 5, 3, 2, 1] rfl ?_
              have loop3 : ∀ (m9_3 : Nat) (i2 : Nat) (e1 : Nat → Int32), 8 - i2 < m9_3 → (i2 ≤ 8) → (∀ j, j < 8 → e1 j = nI (if j < i2 then pk9 d (k + 1) j else pk9 d k j)) → Ws z sc mX2_payDebts 0 0 0 0 83 [(5, .int (nI i2)), (0, .ref 37), (1, .ref 34), (2, .int (nI (k + 1))), (3, .int (nI (sm (cl d (k + 1)) 8))), (4, .int (nI (us d (k + 1))))] [] (mz σ [(38, e1), (37, f2), (40, g3), (41, g4)] []) (RV fun σ' => ∃ f1 f2 f3 f4, σ' = mz σ [(38, f1), (37, f2), (40, f3), (41, f4)] [] ∧ (f2 0 = nI (nts d) ∧ f2 1 = nI (nts d - lf d 5) ∧ f2 2 = nI (du d 5 - (nts d - lf d 5))) ∧ ∀ i, i < 8 → f1 i = nI (pd d i)) := by
                intro m9_3
                induction m9_3 with
                | zero => intro i2 e1 hme; exact absurd hme (Nat.not_lt_zero _)
                | succ m9_3 ih3 =>
                  intro i2 e1 hme hi2 he1
                  refine r_iload rfl rfl ?_
                  refine n_bipush 8 rfl (by decide) ?_
                  refine n_icmp_ge (tgt := 113) rfl rfl (by omega) (by omega) (fun h3 => ?_) (fun h3 => ?_)
                  · refine r_aload_n rfl rfl ?_
                    refine r_dup rfl rfl ?_
                    refine s_getI (x := nI (nts d - lf d k)) rfl flX2_15 rfl rfl h21 ?_
                    refine r_iload rfl rfl ?_
                    refine n_iadd rfl ?_
                    refine m_putI (L' := [(38, e1), (37, (aup f2 1 (nI ((nts d - lf d k) + (us d (k + 1)))))), (40, g3), (41, g4)]) rfl flX2_15 rfl rfl (okv_i _) rfl ?_
                    refine r_aload_n rfl rfl ?_
                    refine r_dup rfl rfl ?_
                    refine s_getI (x := nI (du d k - (nts d - lf d k))) rfl flX2_18 rfl rfl h22 ?_
                    refine r_iload_n rfl rfl ?_
                    refine r_iload rfl rfl ?_
                    refine n_isub rfl (by omega) ?_
                    refine n_iadd rfl ?_
                    refine m_putI (L' := [(38, e1), (37, (aup (aup f2 1 (nI ((nts d - lf d k) + (us d (k + 1))))) 2 (nI ((du d k - (nts d - lf d k)) + ((sm (cl d (k + 1)) 8) - (us d (k + 1))))))), (40, g3), (41, g4)]) rfl flX2_18 rfl rfl (okv_i _) rfl ?_
                    refine n_iinc (lv' := [(2, .int (nI ((k + 1) + 1))), (5, .int (nI i2)), (0, .ref 37), (1, .ref 34), (3, .int (nI (sm (cl d (k + 1)) 8))), (4, .int (nI (us d (k + 1))))]) 1 rfl rfl (Nat.le_of_ble_eq_true rfl) rfl ?_
                    refine r_goto (tgt := 33) rfl rfl ?_
                    refine r_lv (lv' := [(2, .int (nI ((k + 1) + 1))), (0, .ref 37), (1, .ref 34)]) [0, 2, 3] rfl ?_
                    exact ih2 (k + 1) e1 _ g3 g4 (by omega) (by omega) h20 (by show nI _ = _; congr 1; omega) (by show nI _ = _; congr 1; omega) (fun i hi => by rw [he1 i hi, if_pos (by omega)])
                  · refine r_aload_n rfl rfl ?_
                    refine s_getR (r := 38) rfl flX2_27 rfl rfl ?_
                    refine r_iload rfl rfl ?_
                    refine r_dup2 rfl rfl rfl ?_
                    refine s_iald (x := nI (pk9 d k i2)) rfl rfl (by omega) ((he1 i2 (by omega)).trans (congrArg nI (if_neg (Nat.lt_irrefl _)))) ?_
                    refine r_aload_n rfl rfl ?_
                    refine s_getR (r := 41) rfl flX2_37 rfl rfl ?_
                    refine r_iload rfl rfl ?_
                    refine s_iald (x := nI (pr d (k + 1) i2)) rfl rfl (by omega) (hg4 i2 (by omega)) ?_
                    refine n_iadd rfl ?_
                    refine m_iast (L' := [(38, (aup e1 i2 (nI ((pk9 d k i2) + (pr d (k + 1) i2))))), (37, f2), (40, g3), (41, g4)]) rfl rfl (by omega) rfl ?_
                    refine n_iinc (lv' := [(5, .int (nI (i2 + 1))), (0, .ref 37), (1, .ref 34), (2, .int (nI (k + 1))), (3, .int (nI (sm (cl d (k + 1)) 8))), (4, .int (nI (us d (k + 1))))]) 1 rfl rfl (Nat.le_of_ble_eq_true rfl) rfl ?_
                    refine r_goto (tgt := 83) rfl rfl ?_
                    refine r_lv (lv' := [(5, .int (nI (i2 + 1))), (0, .ref 37), (1, .ref 34), (2, .int (nI (k + 1))), (3, .int (nI (sm (cl d (k + 1)) 8))), (4, .int (nI (us d (k + 1))))]) [0, 1, 2, 3, 4, 5] rfl ?_
                    exact ih3 (i2 + 1) _ (by omega) (by omega) (aup_all he1 (by rw [ifs_s, pk9_s hV]) (fun j _ q => by rw [ifs_n q]))
              exact loop3 9 0 f1 (by omega) (by omega) (fun j hj => by rw [if_neg (by omega)]; exact hf1 j hj)
        exact loop2 6 0 f _ (σ.1 40) (σ.1 41) (by omega) (by omega) hN (by show nI 0 = nI (nts d - nts d); rw [Nat.sub_self]) (by show nI 0 = nI (0 - (nts d - nts d)); rw [Nat.zero_sub]) (fun i hi => by rw [hf i (by omega), pk9_0 hV])
      · refine r_aload_n rfl rfl ?_
        refine s_getR (r := 38) rfl flX2_27 rfl rfl ?_
        refine r_iload_n rfl rfl ?_
        refine n_iconst 0 rfl ?_
        refine m_iast (L' := [(38, (aup f i (nI 0)))]) rfl rfl (by omega) rfl ?_
        refine n_iinc (lv' := [(2, .int (nI (i + 1))), (0, .ref 37), (1, .ref 34)]) 1 rfl rfl (Nat.le_of_ble_eq_true rfl) rfl ?_
        refine r_goto (tgt := 2) rfl rfl ?_
        refine r_lv (lv' := [(2, .int (nI (i + 1))), (0, .ref 37), (1, .ref 34)]) [0, 1, 2] rfl ?_
        exact ih (i + 1) _ (by omega) (by omega) (aup_lt hf rfl)
  exact loop 9 0 _ (by omega) (by omega) (fun j hj => absurd hj (Nat.not_lt_zero _))

theorem c_payLeg_B {z : SZ} {sc : SC} {σ : SS} {d : D} (hS : SR (σ.1 35) d) (hE : EE σ d) (hV : Vd d) (hN : σ.1 37 0 = nI (nts d)) (hM : σ.1 37 1 = nI (nts d - lf d 5)) : Cs z sc mX2_payLegacies 0 0 [.ref 37, .ref 12, .ref 34] σ (RV fun σ' => ∃ f2 f3 f4, σ' = mz σ [(40, f3), (37, f2), (39, f4)] [] ∧ (f2 0 = nI (nts d) ∧ f2 1 = nI (nts d - lf d 5) ∧ f2 2 = σ.1 37 2 ∧ f2 3 = nI (lu9 d) ∧ f2 4 = nI (rs d)) ∧ ∀ i, i < 8 → f4 i = nI (lp d i)) := by
  refine Cs.of gmX2_payLegacies (Nat.le_of_ble_eq_true rfl) ?_
  show Ws z sc mX2_payLegacies 0 0 0 0 0 [(0, .ref 37), (1, .ref 12), (2, .ref 34)] [] (mz σ [] []) (RV fun σ' => ∃ f2 f3 f4, σ' = mz σ [(40, f3), (37, f2), (39, f4)] [] ∧ (f2 0 = nI (nts d) ∧ f2 1 = nI (nts d - lf d 5) ∧ f2 2 = σ.1 37 2 ∧ f2 3 = nI (lu9 d) ∧ f2 4 = nI (rs d)) ∧ ∀ i, i < 8 → f4 i = nI (lp d i))
  have hNb := nts_le hV (vC hV).2.1
  have hNe : sm (nt d) (d 0 1) = nts d := rfl
  rw [hNe] at hNb
  have hC := vC hV
  have hl := lf_le d 5
  have hls := lcs_le hV
  refine n_iconst 0 rfl ?_
  refine r_istore_n (lv' := [(3, .int (nI 0)), (0, .ref 37), (1, .ref 12), (2, .ref 34)]) rfl rfl (Nat.le_of_ble_eq_true rfl) rfl ?_
  refine r_lv (lv' := [(3, .int (nI 0)), (0, .ref 37), (1, .ref 12), (2, .ref 34)]) [0, 1, 2, 3] rfl ?_
  refine m_newI (L' := [(40, (σ.1 40))]) 40 rfl ?_
  have loop : ∀ (m9 : Nat) (i : Nat) (f : Nat → Int32), 8 - i < m9 → (i ≤ 8) → (∀ j, j < i → f j = nI (lc d j)) → Ws z sc mX2_payLegacies 0 0 0 0 2 [(3, .int (nI i)), (0, .ref 37), (1, .ref 12), (2, .ref 34)] [] (mz σ [(40, f)] []) (RV fun σ' => ∃ f2 f3 f4, σ' = mz σ [(40, f3), (37, f2), (39, f4)] [] ∧ (f2 0 = nI (nts d) ∧ f2 1 = nI (nts d - lf d 5) ∧ f2 2 = σ.1 37 2 ∧ f2 3 = nI (lu9 d) ∧ f2 4 = nI (rs d)) ∧ ∀ i, i < 8 → f4 i = nI (lp d i)) := by
    intro m9
    induction m9 with
    | zero => intro i f hme; exact absurd hme (Nat.not_lt_zero _)
    | succ m9 ih =>
      intro i f hme hi hf
      have hL := vL hV i
      refine r_iload_n rfl rfl ?_
      refine n_bipush 8 rfl (by decide) ?_
      refine n_icmp_ge (tgt := 67) rfl rfl (by omega) (by omega) (fun h1 => ?_) (fun h1 => ?_)
      · have hfs : ∀ j, j < 8 → f j = nI (lc d j) := fun j hj => hf j (by omega)
        refine r_aload_n rfl rfl ?_
        refine r_aload_n rfl rfl ?_
        refine s_getI (x := nI (nts d)) rfl flX2_9 rfl rfl hN ?_
        refine r_aload_n rfl rfl ?_
        refine s_getI (x := nI (nts d - lf d 5)) rfl flX2_15 rfl rfl hM ?_
        refine n_isub rfl (by omega) ?_
        refine r_top (y := nI (lf d 5)) (by rw [show nts d - (nts d - lf d 5) = lf d 5 by omega]) ?_
        refine r_aload_n rfl rfl ?_
        refine s_getR (r := 40) rfl flX2_34 rfl rfl ?_
        refine s_staNI [.ref 40] [.int (nI (lf d 5)), .ref 37] rfl lkX2_70 (c_sumOf_40 hfs) rfl rfl (Nat.le_refl _) (Nat.le_refl _) (rI (e1 := nI (sm (lc d) 8)) rfl ?_)
        refine n_mmin rfl ma_minLX2_74 ma_minS maI ma_minC rfl rfl (by omega) (by omega) ?_
        refine r_top (y := nI (lu9 d)) rfl ?_
        have hlu : lu9 d ≤ lf d 5 := Nat.min_le_left _ _
        refine m_putI (L' := [(40, f), (37, (aup (σ.1 37) 3 (nI (lu9 d))))]) rfl flX2_21 rfl rfl (okv_i _) rfl ?_
        refine r_aload_n rfl rfl ?_
        refine s_getI (x := nI (lu9 d)) rfl flX2_21 rfl rfl rfl ?_
        refine r_aload_n rfl rfl ?_
        refine s_getR (r := 40) rfl flX2_34 rfl rfl ?_
        refine r_aload_n rfl rfl ?_
        refine s_getR (r := 39) rfl flX2_31 rfl rfl ?_
        refine s_staNV [.int (nI (lu9 d)), .ref 40, .ref 39] [] rfl lkX2_80 (c_split_40_39 (by omega) hfs (by omega)) rfl rfl (Nat.le_refl _) (Nat.le_refl _) ?_
        rintro _ ⟨f4, rfl, hf4⟩
        refine m_mz (L' := [(40, f), (37, (aup (σ.1 37) 3 (nI (lu9 d)))), (39, f4)]) (M' := []) rfl rfl ?_
        refine r_aload_n rfl rfl ?_
        refine r_aload_n rfl rfl ?_
        refine s_getI (x := nI (nts d)) rfl flX2_9 rfl rfl hN ?_
        refine r_aload_n rfl rfl ?_
        refine s_getI (x := nI (nts d - lf d 5)) rfl flX2_15 rfl rfl hM ?_
        refine n_isub rfl (by omega) ?_
        refine r_aload_n rfl rfl ?_
        refine s_getI (x := nI (lu9 d)) rfl flX2_21 rfl rfl rfl ?_
        refine n_isub rfl (by omega) ?_
        refine r_top (y := nI (rs d)) (by rw [show nts d - (nts d - lf d 5) - lu9 d = rs d by unfold rs; omega]) ?_
        refine m_putI (L' := [(40, f), (37, (aup (aup (σ.1 37) 3 (nI (lu9 d))) 4 (nI (rs d)))), (39, f4)]) rfl flX2_24 rfl rfl (okv_i _) rfl ?_
        exact s_vret (st := []) rfl rfl (Nat.zero_le _) (Nat.zero_le _) (⟨rfl, _, f, f4, rfl, ⟨hN, hM, rfl, rfl, rfl⟩, hf4⟩)
      · refine r_iload_n rfl rfl ?_
        refine r_aload_n rfl rfl ?_
        refine s_getI (x := nI (d 0 4)) rfl flX2_94 rfl rfl hE.1.2.2.2.1 ?_
        suffices K : Ws z sc mX2_payLegacies 0 0 0 0 36 [(3, .int (nI i)), (0, .ref 37), (1, .ref 12), (2, .ref 34)] [.int (nI (tb (decide (i < d 0 4 ∧ tk d (d 11 i) = true))))] (mz σ [(40, f)] []) (RV fun σ' => ∃ f2 f3 f4, σ' = mz σ [(40, f3), (37, f2), (39, f4)] [] ∧ (f2 0 = nI (nts d) ∧ f2 1 = nI (nts d - lf d 5) ∧ f2 2 = σ.1 37 2 ∧ f2 3 = nI (lu9 d) ∧ f2 4 = nI (rs d)) ∧ ∀ i, i < 8 → f4 i = nI (lp d i)) by
          refine n_icmp_ge (tgt := 35) rfl rfl (by omega) (by omega) (fun h2 => ?_) (fun h2 => ?_)
          · refine n_iconst 0 rfl ?_
            exact r_top (by rw [decide_eq_false (by omega)]; rfl) K
          · refine r_aload_n rfl rfl ?_
            refine r_aload_n rfl rfl ?_
            refine s_getR (r := 16) rfl flX2_97 rfl rfl ?_
            refine r_iload_n rfl rfl ?_
            refine s_staNI [.ref 16, .int (nI i)] [.ref 34] rfl lkX2_51 (c_at_16 (by omega) (hE.2.2.2.1 i h2)) rfl rfl (Nat.le_refl _) (Nat.le_refl _) (rI (e1 := nI (d 11 i)) rfl ?_)
            refine s_virI [.int (nI (d 11 i))] [] rfl lkX2_100 rfl rfl rfl (c_takes_34 hS hV (by omega)) rfl rfl (Nat.le_refl _) (Nat.le_refl _) rfl (rI (e1 := nI (tb (tk d (d 11 i)))) rfl ?_)
            have ht2 := tb_le (tk d (d 11 i))
            refine n_if_eq (tgt := 35) rfl rfl (by omega) (fun h3 => ?_) (fun h3 => ?_)
            · refine n_iconst 0 rfl ?_
              exact r_top (by rw [decide_eq_false (fun q => by rw [q.2] at h3; exact absurd h3 (by decide))]; rfl) K
            · refine n_iconst 1 rfl ?_
              refine r_goto (tgt := 36) rfl rfl ?_
              exact r_top (by rw [decide_eq_true ⟨h2, tb_ne h3⟩]; rfl) K
        have hT := tb_le (decide (i < d 0 4 ∧ tk d (d 11 i) = true))
        refine r_istore (lv' := [(4, .int (nI (tb (decide (i < d 0 4 ∧ tk d (d 11 i) = true))))), (3, .int (nI i)), (0, .ref 37), (1, .ref 12), (2, .ref 34)]) rfl (Nat.le_of_ble_eq_true rfl) rfl ?_
        refine r_aload_n rfl rfl ?_
        refine s_getR (r := 40) rfl flX2_34 rfl rfl ?_
        refine r_iload_n rfl rfl ?_
        refine r_iload rfl rfl ?_
        suffices K : Ws z sc mX2_payLegacies 0 0 0 0 60 [(4, .int (nI (tb (decide (i < d 0 4 ∧ tk d (d 11 i) = true))))), (3, .int (nI i)), (0, .ref 37), (1, .ref 12), (2, .ref 34)] [.int (nI (lc d i)), .int (nI i), .ref 40] (mz σ [(40, f)] []) (RV fun σ' => ∃ f2 f3 f4, σ' = mz σ [(40, f3), (37, f2), (39, f4)] [] ∧ (f2 0 = nI (nts d) ∧ f2 1 = nI (nts d - lf d 5) ∧ f2 2 = σ.1 37 2 ∧ f2 3 = nI (lu9 d) ∧ f2 4 = nI (rs d)) ∧ ∀ i, i < 8 → f4 i = nI (lp d i)) by
          refine n_if_eq (tgt := 59) rfl rfl (by omega) (fun h4 => ?_) (fun h4 => ?_)
          · refine n_iconst 0 rfl ?_
            exact r_top (by unfold lc; rw [if_neg (of_decide_eq_false (tb_z h4))]) K
          · have h5 := of_decide_eq_true (tb_ne h4)
            refine r_aload_n rfl rfl ?_
            refine s_getR (r := 17) rfl flX2_104 rfl rfl ?_
            refine r_iload_n rfl rfl ?_
            refine s_staNI [.ref 17, .int (nI i)] [.int (nI i), .ref 40] rfl lkX2_51 (c_at_17 (by omega) (hE.2.2.2.2 i h5.1)) rfl rfl (Nat.le_refl _) (Nat.le_refl _) (rI (e1 := nI (d 12 i)) rfl ?_)
            refine r_goto (tgt := 60) rfl rfl ?_
            exact r_top (by unfold lc; rw [if_pos h5]) K
        refine m_iast (L' := [(40, (aup f i (nI (lc d i))))]) rfl rfl (by omega) rfl ?_
        refine n_iinc (lv' := [(3, .int (nI (i + 1))), (4, .int (nI (tb (decide (i < d 0 4 ∧ tk d (d 11 i) = true))))), (0, .ref 37), (1, .ref 12), (2, .ref 34)]) 1 rfl rfl (Nat.le_of_ble_eq_true rfl) rfl ?_
        refine r_goto (tgt := 2) rfl rfl ?_
        refine r_lv (lv' := [(3, .int (nI (i + 1))), (0, .ref 37), (1, .ref 12), (2, .ref 34)]) [0, 2, 3, 4] rfl ?_
        exact ih (i + 1) _ (by omega) (by omega) (aup_lt hf rfl)
  exact loop 9 0 _ (by omega) (by omega) (fun j hj => absurd hj (Nat.not_lt_zero _))

