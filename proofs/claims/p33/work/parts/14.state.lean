theorem nar_1 {x : Nat} (h : x ≤ 1) : narrow .boolean (.int (nI x)) = .int (nI x) := by
  rcases (show x = 0 ∨ x = 1 by omega) with e | e <;> rw [e] <;> decide
theorem tk_no {d : D} {j : Nat} (h : d 3 j ≠ 0 ∨ d 4 j ≠ 0) : tk d j = false := by
  unfold tk
  rcases h with h | h
  · rw [beq_false_of_ne h]; rfl
  · rw [beq_false_of_ne h, Bool.and_false]
theorem tk_yes {d : D} {j : Nat} (h1 : d 3 j = 0) (h2 : d 4 j = 0) : tk d j = true := by
  unfold tk
  rw [h1, h2]; rfl
theorem go_yes {d : D} {j : Nat} (h : d 3 j ≠ 0 ∨ (d 4 j ≠ 0 ∧ d 0 9 ≠ 0)) : go d j = true := by
  unfold go
  rcases h with h | h
  · rw [beq_false_of_ne h]; rfl
  · rw [beq_false_of_ne h.1, beq_false_of_ne h.2]
    exact Bool.or_true _
theorem go_no {d : D} {j : Nat} (h1 : d 3 j = 0) (h : d 4 j = 0 ∨ d 0 9 = 0) : go d j = false := by
  unfold go
  rw [h1]
  rcases h with h | h
  · rw [h]; rfl
  · rw [h]
    cases d 4 j <;> rfl
theorem SRclear {f : Nat → Int32} (h : ∀ j, j < 79 → f j = nI 0) : SR (aup f 78 (nI 1)) dE := by
  intro k hk
  have e : sR dE k = if k = 78 then nI 1 else nI 0 := (by decide : ∀ k, k < 79 → sR dE k = if k = 78 then nI 1 else nI 0) k hk
  rw [e]
  by_cases q : k = 78
  · subst q; rw [aup_s]; rfl
  · rw [aup_n _ _ q, if_neg q, h k hk]
theorem c_cell_10 {z : SZ} {sc : SC} {σ : SS} {a j q : Nat} {v : Int32} (hj : j < q) (hq : a + q ≤ 79) (hv : σ.1 11 (a + j) = v) : Cs z sc mX8_cell 0 0 [.ref 10, .int (nI a), .int (nI j), .int (nI q)] σ (PI v σ) := by
  refine Cs.of gmX8_cell (Nat.le_of_ble_eq_true rfl) ?_
  show Ws z sc mX8_cell 0 0 0 0 0 [(0, .ref 10), (1, .int (nI a)), (2, .int (nI j)), (3, .int (nI q))] [] (mz σ [] []) (PI v σ)
  refine r_iload_n rfl rfl ?_
  refine r_iload_n rfl rfl ?_
  refine n_iadd rfl ?_
  refine r_istore (lv' := [(4, .int (nI (a + j))), (0, .ref 10), (1, .int (nI a)), (2, .int (nI j)), (3, .int (nI q))]) rfl (Nat.le_of_ble_eq_true rfl) rfl ?_
  refine r_iload_n rfl rfl ?_
  refine n_if_lt (tgt := 33) rfl rfl (by omega) (fun hq => hq.elim) (fun _ => ?_)
  refine r_iload_n rfl rfl ?_
  refine r_iload_n rfl rfl ?_
  refine n_icmp_ge (tgt := 33) rfl rfl (by omega) (by omega) (fun hq => absurd hq (by omega)) (fun _ => ?_)
  refine r_iload rfl rfl ?_
  refine n_if_lt (tgt := 33) rfl rfl (by omega) (fun hq => hq.elim) (fun _ => ?_)
  refine r_iload rfl rfl ?_
  refine r_aload_n rfl rfl ?_
  refine s_getR (r := 11) rfl flX8_11 rfl rfl ?_
  refine s_alen rfl rfl ?_
  refine n_icmp_ge (tgt := 33) rfl rfl (by omega) (by omega) (fun hq => absurd hq (by omega)) (fun _ => ?_)
  refine n_iconst 1 rfl ?_
  refine r_goto (tgt := 34) rfl rfl ?_
  refine r_istore (lv' := [(5, .int (nI 1)), (4, .int (nI (a + j))), (0, .ref 10), (1, .int (nI a)), (2, .int (nI j)), (3, .int (nI q))]) rfl (Nat.le_of_ble_eq_true rfl) rfl ?_
  refine r_iload rfl rfl ?_
  refine n_if_eq (tgt := 51) rfl rfl (by omega) (fun hq => absurd hq (by decide)) (fun _ => ?_)
  refine r_aload_n rfl rfl ?_
  refine s_getR (r := 11) rfl flX8_11 rfl rfl ?_
  refine r_iload rfl rfl ?_
  refine s_iald (x := v) rfl rfl (by omega) hv ?_
  refine r_goto (tgt := 52) rfl rfl ?_
  exact s_ret (st := []) rfl rfl rfl (Nat.zero_le _) (Nat.zero_le _) (pI rfl rfl)

theorem c_putCell_10 {z : SZ} {sc : SC} {σ : SS} {a j q : Nat} {x : Int32} (hj : j < q) (hq : a + q ≤ 79) : Cs z sc mX8_putCell 0 0 [.ref 10, .int (nI a), .int (nI j), .int (nI q), .int x] σ (PV (mz σ [(11, aup (σ.1 11) (a + j) x)] [])) := by
  refine Cs.of gmX8_putCell (Nat.le_of_ble_eq_true rfl) ?_
  show Ws z sc mX8_putCell 0 0 0 0 0 [(0, .ref 10), (1, .int (nI a)), (2, .int (nI j)), (3, .int (nI q)), (4, .int x)] [] (mz σ [] []) (PV (mz σ [(11, aup (σ.1 11) (a + j) x)] []))
  refine r_iload_n rfl rfl ?_
  refine r_iload_n rfl rfl ?_
  refine n_iadd rfl ?_
  refine r_istore (lv' := [(5, .int (nI (a + j))), (0, .ref 10), (1, .int (nI a)), (2, .int (nI j)), (3, .int (nI q)), (4, .int x)]) rfl (Nat.le_of_ble_eq_true rfl) rfl ?_
  refine r_iload_n rfl rfl ?_
  refine n_if_lt (tgt := 38) rfl rfl (by omega) (fun hq => hq.elim) (fun _ => ?_)
  refine r_iload_n rfl rfl ?_
  refine r_iload_n rfl rfl ?_
  refine n_icmp_ge (tgt := 38) rfl rfl (by omega) (by omega) (fun hq => absurd hq (by omega)) (fun _ => ?_)
  refine r_iload rfl rfl ?_
  refine n_if_lt (tgt := 38) rfl rfl (by omega) (fun hq => hq.elim) (fun _ => ?_)
  refine r_iload rfl rfl ?_
  refine r_aload_n rfl rfl ?_
  refine s_getR (r := 11) rfl flX8_11 rfl rfl ?_
  refine s_alen rfl rfl ?_
  refine n_icmp_ge (tgt := 38) rfl rfl (by omega) (by omega) (fun hq => absurd hq (by omega)) (fun _ => ?_)
  refine r_aload_n rfl rfl ?_
  refine s_getR (r := 11) rfl flX8_11 rfl rfl ?_
  refine r_iload rfl rfl ?_
  refine r_iload rfl rfl ?_
  refine m_iast (L' := [(11, (aup (σ.1 11) (a + j) x))]) rfl rfl (by omega) rfl ?_
  exact s_vret (st := []) rfl rfl (Nat.zero_le _) (Nat.zero_le _) (pV rfl)

theorem c_age_10 {z : SZ} {sc : SC} {σ : SS} {d : D} {j : Nat} (hS : SR (σ.1 11) d) (hj : j < 12) : Cs z sc mX8_age 0 0 [.ref 10, .int (nI j)] σ (PI (nI (d 2 j)) σ) := by
  refine Cs.of gmX8_age (Nat.le_of_ble_eq_true rfl) ?_
  show Ws z sc mX8_age 0 0 0 0 0 [(0, .ref 10), (1, .int (nI j))] [] (mz σ [] []) (PI (nI (d 2 j)) σ)
  refine r_aload_n rfl rfl ?_
  refine n_iconst 0 rfl ?_
  refine r_iload_n rfl rfl ?_
  refine n_bipush 12 rfl (by decide) ?_
  refine s_virI [.int (nI 0), .int (nI j), .int (nI 12)] [] rfl lkX8_21 rfl rfl rfl (c_cell_10 (v := nI (d 2 j)) (by omega) (by omega) (SRat hS 2 j (by omega) (sP2 hj))) rfl rfl (Nat.le_refl _) (Nat.le_refl _) rfl (rI (e1 := nI (d 2 j)) rfl ?_)
  exact s_ret (st := []) rfl rfl rfl (Nat.zero_le _) (Nat.zero_le _) (pI rfl rfl)

theorem c_value_10 {z : SZ} {sc : SC} {σ : SS} {d : D} {j : Nat} (hS : SR (σ.1 11) d) (hj : j < 8) : Cs z sc mX8_value 0 0 [.ref 10, .int (nI j)] σ (PI (nI (d 5 j)) σ) := by
  refine Cs.of gmX8_value (Nat.le_of_ble_eq_true rfl) ?_
  show Ws z sc mX8_value 0 0 0 0 0 [(0, .ref 10), (1, .int (nI j))] [] (mz σ [] []) (PI (nI (d 5 j)) σ)
  refine r_aload_n rfl rfl ?_
  refine n_bipush 36 rfl (by decide) ?_
  refine r_iload_n rfl rfl ?_
  refine n_bipush 8 rfl (by decide) ?_
  refine s_virI [.int (nI 36), .int (nI j), .int (nI 8)] [] rfl lkX8_21 rfl rfl rfl (c_cell_10 (v := nI (d 5 j)) (by omega) (by omega) (SRat hS 5 j (by omega) (sP5 hj))) rfl rfl (Nat.le_refl _) (Nat.le_refl _) rfl (rI (e1 := nI (d 5 j)) rfl ?_)
  exact s_ret (st := []) rfl rfl rfl (Nat.zero_le _) (Nat.zero_le _) (pI rfl rfl)

theorem c_debtRank_10 {z : SZ} {sc : SC} {σ : SS} {d : D} {j : Nat} (hS : SR (σ.1 11) d) (hj : j < 8) : Cs z sc mX8_debtRank 0 0 [.ref 10, .int (nI j)] σ (PI (nI (d 7 j)) σ) := by
  refine Cs.of gmX8_debtRank (Nat.le_of_ble_eq_true rfl) ?_
  show Ws z sc mX8_debtRank 0 0 0 0 0 [(0, .ref 10), (1, .int (nI j))] [] (mz σ [] []) (PI (nI (d 7 j)) σ)
  refine r_aload_n rfl rfl ?_
  refine n_bipush 62 rfl (by decide) ?_
  refine r_iload_n rfl rfl ?_
  refine n_bipush 8 rfl (by decide) ?_
  refine s_virI [.int (nI 62), .int (nI j), .int (nI 8)] [] rfl lkX8_21 rfl rfl rfl (c_cell_10 (v := nI (d 7 j)) (by omega) (by omega) (SRat hS 7 j (by omega) (sP7 hj))) rfl rfl (Nat.le_refl _) (Nat.le_refl _) rfl (rI (e1 := nI (d 7 j)) rfl ?_)
  exact s_ret (st := []) rfl rfl rfl (Nat.zero_le _) (Nat.zero_le _) (pI rfl rfl)

theorem c_debtAmount_10 {z : SZ} {sc : SC} {σ : SS} {d : D} {j : Nat} (hS : SR (σ.1 11) d) (hj : j < 8) : Cs z sc mX8_debtAmount 0 0 [.ref 10, .int (nI j)] σ (PI (nI (d 8 j)) σ) := by
  refine Cs.of gmX8_debtAmount (Nat.le_of_ble_eq_true rfl) ?_
  show Ws z sc mX8_debtAmount 0 0 0 0 0 [(0, .ref 10), (1, .int (nI j))] [] (mz σ [] []) (PI (nI (d 8 j)) σ)
  refine r_aload_n rfl rfl ?_
  refine n_bipush 70 rfl (by decide) ?_
  refine r_iload_n rfl rfl ?_
  refine n_bipush 8 rfl (by decide) ?_
  refine s_virI [.int (nI 70), .int (nI j), .int (nI 8)] [] rfl lkX8_21 rfl rfl rfl (c_cell_10 (v := nI (d 8 j)) (by omega) (by omega) (SRat hS 8 j (by omega) (sP8 hj))) rfl rfl (Nat.le_refl _) (Nat.le_refl _) rfl (rI (e1 := nI (d 8 j)) rfl ?_)
  exact s_ret (st := []) rfl rfl rfl (Nat.zero_le _) (Nat.zero_le _) (pI rfl rfl)

theorem c_giftCount_10 {z : SZ} {sc : SC} {σ : SS} {d : D} (hS : SR (σ.1 11) d) : Cs z sc mX8_giftCount 0 0 [.ref 10] σ (PI (nI (d 0 3)) σ) := by
  refine Cs.of gmX8_giftCount (Nat.le_of_ble_eq_true rfl) ?_
  show Ws z sc mX8_giftCount 0 0 0 0 0 [(0, .ref 10)] [] (mz σ [] []) (PI (nI (d 0 3)) σ)
  refine r_aload_n rfl rfl ?_
  refine s_getR (r := 11) rfl flX8_11 rfl rfl ?_
  refine n_bipush 44 rfl (by decide) ?_
  refine s_iald (x := nI (d 0 3)) rfl rfl (by decide) (SRat hS 0 3 (by decide) (by decide)) ?_
  exact s_ret (st := []) rfl rfl rfl (Nat.zero_le _) (Nat.zero_le _) (pI rfl rfl)

theorem c_debtCount_10 {z : SZ} {sc : SC} {σ : SS} {d : D} (hS : SR (σ.1 11) d) : Cs z sc mX8_debtCount 0 0 [.ref 10] σ (PI (nI (d 0 2)) σ) := by
  refine Cs.of gmX8_debtCount (Nat.le_of_ble_eq_true rfl) ?_
  show Ws z sc mX8_debtCount 0 0 0 0 0 [(0, .ref 10)] [] (mz σ [] []) (PI (nI (d 0 2)) σ)
  refine r_aload_n rfl rfl ?_
  refine s_getR (r := 11) rfl flX8_11 rfl rfl ?_
  refine n_bipush 61 rfl (by decide) ?_
  refine s_iald (x := nI (d 0 2)) rfl rfl (by decide) (SRat hS 0 2 (by decide) (by decide)) ?_
  exact s_ret (st := []) rfl rfl rfl (Nat.zero_le _) (Nat.zero_le _) (pI rfl rfl)

theorem c_accruesInLine_10 {z : SZ} {sc : SC} {σ : SS} {d : D} (hS : SR (σ.1 11) d) (hV : Vd d) : Cs z sc mX8_accruesInLine 0 0 [.ref 10] σ (PI (nI (d 0 9)) σ) := by
  refine Cs.of gmX8_accruesInLine (Nat.le_of_ble_eq_true rfl) ?_
  show Ws z sc mX8_accruesInLine 0 0 0 0 0 [(0, .ref 10)] [] (mz σ [] []) (PI (nI (d 0 9)) σ)
  have hC := vC hV
  refine r_aload_n rfl rfl ?_
  refine s_getR (r := 11) rfl flX8_11 rfl rfl ?_
  refine n_bipush 78 rfl (by decide) ?_
  refine s_iald (x := nI (d 0 9)) rfl rfl (by decide) (SRat hS 0 9 (by decide) (by decide)) ?_
  suffices K : Ws z sc mX8_accruesInLine 0 0 0 0 15 [(0, .ref 10)] [.int (nI (d 0 9))] (mz σ [] []) (PI (nI (d 0 9)) σ) by
    refine n_if_eq (tgt := 14) rfl rfl (by omega) (fun h => ?_) (fun h => ?_)
    · refine n_iconst 0 rfl ?_
      exact r_top (by rw [h]) K
    · refine n_iconst 1 rfl ?_
      refine r_goto (tgt := 15) rfl rfl ?_
      exact r_top (by rw [show d 0 9 = 1 by omega]) K
  exact s_ret (st := []) rfl rfl (nar_1 (by omega)) (Nat.zero_le _) (Nat.zero_le _) (pI rfl rfl)

theorem c_isDead_10 {z : SZ} {sc : SC} {σ : SS} {d : D} {j : Nat} (hS : SR (σ.1 11) d) (hV : Vd d) (hj : j < 12) : Cs z sc mX8_isDead 0 0 [.ref 10, .int (nI j)] σ (PI (nI (d 3 j)) σ) := by
  refine Cs.of gmX8_isDead (Nat.le_of_ble_eq_true rfl) ?_
  show Ws z sc mX8_isDead 0 0 0 0 0 [(0, .ref 10), (1, .int (nI j))] [] (mz σ [] []) (PI (nI (d 3 j)) σ)
  have hA := vA hV j
  refine r_aload_n rfl rfl ?_
  refine n_bipush 12 rfl (by decide) ?_
  refine r_iload_n rfl rfl ?_
  refine n_bipush 12 rfl (by decide) ?_
  refine s_virI [.int (nI 12), .int (nI j), .int (nI 12)] [] rfl lkX8_21 rfl rfl rfl (c_cell_10 (v := nI (d 3 j)) (by omega) (by omega) (SRat hS 3 j (by omega) (sP3 hj))) rfl rfl (Nat.le_refl _) (Nat.le_refl _) rfl (rI (e1 := nI (d 3 j)) rfl ?_)
  suffices K : Ws z sc mX8_isDead 0 0 0 0 17 [(0, .ref 10), (1, .int (nI j))] [.int (nI (d 3 j))] (mz σ [] []) (PI (nI (d 3 j)) σ) by
    refine n_if_eq (tgt := 16) rfl rfl (by omega) (fun h => ?_) (fun h => ?_)
    · refine n_iconst 0 rfl ?_
      exact r_top (by rw [h]) K
    · refine n_iconst 1 rfl ?_
      refine r_goto (tgt := 17) rfl rfl ?_
      exact r_top (by rw [show d 3 j = 1 by omega]) K
  exact s_ret (st := []) rfl rfl (nar_1 (by omega)) (Nat.zero_le _) (Nat.zero_le _) (pI rfl rfl)

theorem c_isRefusing_10 {z : SZ} {sc : SC} {σ : SS} {d : D} {j : Nat} (hS : SR (σ.1 11) d) (hV : Vd d) (hj : j < 12) : Cs z sc mX8_isRefusing 0 0 [.ref 10, .int (nI j)] σ (PI (nI (d 4 j)) σ) := by
  refine Cs.of gmX8_isRefusing (Nat.le_of_ble_eq_true rfl) ?_
  show Ws z sc mX8_isRefusing 0 0 0 0 0 [(0, .ref 10), (1, .int (nI j))] [] (mz σ [] []) (PI (nI (d 4 j)) σ)
  have hA := vA hV j
  refine r_aload_n rfl rfl ?_
  refine n_bipush 24 rfl (by decide) ?_
  refine r_iload_n rfl rfl ?_
  refine n_bipush 12 rfl (by decide) ?_
  refine s_virI [.int (nI 24), .int (nI j), .int (nI 12)] [] rfl lkX8_21 rfl rfl rfl (c_cell_10 (v := nI (d 4 j)) (by omega) (by omega) (SRat hS 4 j (by omega) (sP4 hj))) rfl rfl (Nat.le_refl _) (Nat.le_refl _) rfl (rI (e1 := nI (d 4 j)) rfl ?_)
  suffices K : Ws z sc mX8_isRefusing 0 0 0 0 17 [(0, .ref 10), (1, .int (nI j))] [.int (nI (d 4 j))] (mz σ [] []) (PI (nI (d 4 j)) σ) by
    refine n_if_eq (tgt := 16) rfl rfl (by omega) (fun h => ?_) (fun h => ?_)
    · refine n_iconst 0 rfl ?_
      exact r_top (by rw [h]) K
    · refine n_iconst 1 rfl ?_
      refine r_goto (tgt := 17) rfl rfl ?_
      exact r_top (by rw [show d 4 j = 1 by omega]) K
  exact s_ret (st := []) rfl rfl (nar_1 (by omega)) (Nat.zero_le _) (Nat.zero_le _) (pI rfl rfl)

theorem c_takes_10 {z : SZ} {sc : SC} {σ : SS} {d : D} {j : Nat} (hS : SR (σ.1 11) d) (hV : Vd d) (hj : j < 12) : Cs z sc mX8_takes 0 0 [.ref 10, .int (nI j)] σ (PI (nI (tb (tk d j))) σ) := by
  refine Cs.of gmX8_takes (Nat.le_of_ble_eq_true rfl) ?_
  show Ws z sc mX8_takes 0 0 0 0 0 [(0, .ref 10), (1, .int (nI j))] [] (mz σ [] []) (PI (nI (tb (tk d j))) σ)
  have hA := vA hV j
  refine r_aload_n rfl rfl ?_
  refine n_bipush 12 rfl (by decide) ?_
  refine r_iload_n rfl rfl ?_
  refine n_bipush 12 rfl (by decide) ?_
  refine s_virI [.int (nI 12), .int (nI j), .int (nI 12)] [] rfl lkX8_21 rfl rfl rfl (c_cell_10 (v := nI (d 3 j)) (by omega) (by omega) (SRat hS 3 j (by omega) (sP3 hj))) rfl rfl (Nat.le_refl _) (Nat.le_refl _) rfl (rI (e1 := nI (d 3 j)) rfl ?_)
  suffices K : Ws z sc mX8_takes 0 0 0 0 29 [(0, .ref 10), (1, .int (nI j))] [.int (nI (tb (tk d j)))] (mz σ [] []) (PI (nI (tb (tk d j))) σ) by
    refine n_if_ne (tgt := 28) rfl rfl (by omega) (fun h1 => ?_) (fun h1 => ?_)
    · refine n_iconst 0 rfl ?_
      exact r_top (by rw [tk_no (Or.inl h1)]; rfl) K
    · refine r_aload_n rfl rfl ?_
      refine n_bipush 24 rfl (by decide) ?_
      refine r_iload_n rfl rfl ?_
      refine n_bipush 12 rfl (by decide) ?_
      refine s_virI [.int (nI 24), .int (nI j), .int (nI 12)] [] rfl lkX8_21 rfl rfl rfl (c_cell_10 (v := nI (d 4 j)) (by omega) (by omega) (SRat hS 4 j (by omega) (sP4 hj))) rfl rfl (Nat.le_refl _) (Nat.le_refl _) rfl (rI (e1 := nI (d 4 j)) rfl ?_)
      refine n_if_ne (tgt := 28) rfl rfl (by omega) (fun h2 => ?_) (fun h2 => ?_)
      · refine n_iconst 0 rfl ?_
        exact r_top (by rw [tk_no (Or.inr h2)]; rfl) K
      · refine n_iconst 1 rfl ?_
        refine r_goto (tgt := 29) rfl rfl ?_
        exact r_top (by rw [tk_yes h1 h2]; rfl) K
  exact s_ret (st := []) rfl rfl (nar_tb _) (Nat.zero_le _) (Nat.zero_le _) (pI rfl rfl)

theorem c_passesOn_10 {z : SZ} {sc : SC} {σ : SS} {d : D} {j : Nat} (hS : SR (σ.1 11) d) (hV : Vd d) (hj : j < 12) : Cs z sc mX8_passesOn 0 0 [.ref 10, .int (nI j)] σ (PI (nI (tb (go d j))) σ) := by
  refine Cs.of gmX8_passesOn (Nat.le_of_ble_eq_true rfl) ?_
  show Ws z sc mX8_passesOn 0 0 0 0 0 [(0, .ref 10), (1, .int (nI j))] [] (mz σ [] []) (PI (nI (tb (go d j))) σ)
  have hA := vA hV j
  have hC := vC hV
  refine r_aload_n rfl rfl ?_
  refine n_bipush 12 rfl (by decide) ?_
  refine r_iload_n rfl rfl ?_
  refine n_bipush 12 rfl (by decide) ?_
  refine s_virI [.int (nI 12), .int (nI j), .int (nI 12)] [] rfl lkX8_21 rfl rfl rfl (c_cell_10 (v := nI (d 3 j)) (by omega) (by omega) (SRat hS 3 j (by omega) (sP3 hj))) rfl rfl (Nat.le_refl _) (Nat.le_refl _) rfl (rI (e1 := nI (d 3 j)) rfl ?_)
  suffices K : Ws z sc mX8_passesOn 0 0 0 0 39 [(0, .ref 10), (1, .int (nI j))] [.int (nI (tb (go d j)))] (mz σ [] []) (PI (nI (tb (go d j))) σ) by
    refine n_if_ne (tgt := 34) rfl rfl (by omega) (fun h1 => ?_) (fun h1 => ?_)
    · refine n_iconst 1 rfl ?_
      refine r_goto (tgt := 39) rfl rfl ?_
      exact r_top (by rw [go_yes (Or.inl h1)]; rfl) K
    · refine r_aload_n rfl rfl ?_
      refine n_bipush 24 rfl (by decide) ?_
      refine r_iload_n rfl rfl ?_
      refine n_bipush 12 rfl (by decide) ?_
      refine s_virI [.int (nI 24), .int (nI j), .int (nI 12)] [] rfl lkX8_21 rfl rfl rfl (c_cell_10 (v := nI (d 4 j)) (by omega) (by omega) (SRat hS 4 j (by omega) (sP4 hj))) rfl rfl (Nat.le_refl _) (Nat.le_refl _) rfl (rI (e1 := nI (d 4 j)) rfl ?_)
      refine n_if_eq (tgt := 38) rfl rfl (by omega) (fun h2 => ?_) (fun h2 => ?_)
      · refine n_iconst 0 rfl ?_
        exact r_top (by rw [go_no h1 (Or.inl h2)]; rfl) K
      · refine r_aload_n rfl rfl ?_
        refine s_getR (r := 11) rfl flX8_11 rfl rfl ?_
        refine n_bipush 78 rfl (by decide) ?_
        refine s_iald (x := nI (d 0 9)) rfl rfl (by decide) (SRat hS 0 9 (by decide) (by decide)) ?_
        refine n_if_eq (tgt := 38) rfl rfl (by omega) (fun h3 => ?_) (fun h3 => ?_)
        · refine n_iconst 0 rfl ?_
          exact r_top (by rw [go_no h1 (Or.inr h3)]; rfl) K
        · refine n_iconst 1 rfl ?_
          refine r_goto (tgt := 39) rfl rfl ?_
          exact r_top (by rw [go_yes (Or.inr ⟨h2, h3⟩)]; rfl) K
  exact s_ret (st := []) rfl rfl (nar_tb _) (Nat.zero_le _) (Nat.zero_le _) (pI rfl rfl)

theorem c_giftsTo_10 {z : SZ} {sc : SC} {σ : SS} {d : D} {q : Nat} (hS : SR (σ.1 11) d) (hV : Vd d) (hq : q < 12) : Cs z sc mX8_giftsTo 0 0 [.ref 10, .int (nI q)] σ (PI (nI (gf d q)) σ) := by
  refine Cs.of gmX8_giftsTo (Nat.le_of_ble_eq_true rfl) ?_
  show Ws z sc mX8_giftsTo 0 0 0 0 0 [(0, .ref 10), (1, .int (nI q))] [] (mz σ [] []) (PI (nI (gf d q)) σ)
  have hC := vC hV
  refine n_iconst 0 rfl ?_
  refine r_istore_n (lv' := [(2, .int (nI 0)), (0, .ref 10), (1, .int (nI q))]) rfl rfl (Nat.le_of_ble_eq_true rfl) rfl ?_
  refine n_iconst 0 rfl ?_
  refine r_istore_n (lv' := [(3, .int (nI 0)), (2, .int (nI 0)), (0, .ref 10), (1, .int (nI q))]) rfl rfl (Nat.le_of_ble_eq_true rfl) rfl ?_
  refine r_lv (lv' := [(3, .int (nI 0)), (2, .int (nI 0)), (0, .ref 10), (1, .int (nI q))]) [0, 1, 2, 3] rfl ?_
  have loop : ∀ (m9 : Nat) (g : Nat) , d 0 3 - g < m9 → (g ≤ d 0 3) → Ws z sc mX8_giftsTo 0 0 0 0 4 [(3, .int (nI g)), (2, .int (nI (sm (fun g => if d 9 g = q then d 10 g else 0) g))), (0, .ref 10), (1, .int (nI q))] [] (mz σ [] []) (PI (nI (gf d q)) σ) := by
    intro m9
    induction m9 with
    | zero => intro g  hme; exact absurd hme (Nat.not_lt_zero _)
    | succ m9 ih =>
      intro g  hme hg
      have hG := vG hV g
      refine r_iload_n rfl rfl ?_
      refine r_aload_n rfl rfl ?_
      refine s_virI [] [.int (nI g)] rfl lkX8_25 rfl rfl rfl (c_giftCount_10 hS) rfl rfl (Nat.le_refl _) (Nat.le_refl _) rfl (rI (e1 := nI (d 0 3)) rfl ?_)
      refine n_icmp_ge (tgt := 43) rfl rfl (by omega) (by omega) (fun h1 => ?_) (fun h1 => ?_)
      · refine r_iload_n rfl rfl ?_
        exact s_ret (st := []) rfl rfl rfl (Nat.zero_le _) (Nat.zero_le _) (pI (by rw [show g = d 0 3 by omega]; rfl) rfl)
      · refine r_aload_n rfl rfl ?_
        refine n_bipush 45 rfl (by decide) ?_
        refine r_iload_n rfl rfl ?_
        refine n_bipush 8 rfl (by decide) ?_
        refine s_virI [.int (nI 45), .int (nI g), .int (nI 8)] [] rfl lkX8_21 rfl rfl rfl (c_cell_10 (v := nI (d 9 g)) (by omega) (by omega) (SRat hS 9 g (by omega) (sP9 (by omega)))) rfl rfl (Nat.le_refl _) (Nat.le_refl _) rfl (rI (e1 := nI (d 9 g)) rfl ?_)
        refine r_iload_n rfl rfl ?_
        refine n_icmp_ne (tgt := 37) rfl rfl (by omega) (by omega) (fun h2 => ?_) (fun h2 => ?_)
        · refine n_iinc (lv' := [(3, .int (nI (g + 1))), (2, .int (nI (sm (fun g => if d 9 g = q then d 10 g else 0) g))), (0, .ref 10), (1, .int (nI q))]) 1 rfl rfl (Nat.le_of_ble_eq_true rfl) rfl ?_
          refine r_goto (tgt := 4) rfl rfl ?_
          have e : sm (fun g => if d 9 g = q then d 10 g else 0) (g + 1) = sm (fun g => if d 9 g = q then d 10 g else 0) g := by show sm (fun g => if d 9 g = q then d 10 g else 0) g + (if d 9 g = q then d 10 g else 0) = _; rw [if_neg h2, Nat.add_zero]
          rw [← e]
          refine r_lv (lv' := [(3, .int (nI (g + 1))), (2, .int (nI (sm (fun g => if d 9 g = q then d 10 g else 0) (g + 1)))), (0, .ref 10), (1, .int (nI q))]) [0, 1, 2, 3] rfl ?_
          exact ih (g + 1) (by omega) (by omega)
        · refine r_iload_n rfl rfl ?_
          refine r_aload_n rfl rfl ?_
          refine n_bipush 53 rfl (by decide) ?_
          refine r_iload_n rfl rfl ?_
          refine n_bipush 8 rfl (by decide) ?_
          refine s_virI [.int (nI 53), .int (nI g), .int (nI 8)] [.int (nI (sm (fun g => if d 9 g = q then d 10 g else 0) g))] rfl lkX8_21 rfl rfl rfl (c_cell_10 (v := nI (d 10 g)) (by omega) (by omega) (SRat hS 10 g (by omega) (sP10 (by omega)))) rfl rfl (Nat.le_refl _) (Nat.le_refl _) rfl (rI (e1 := nI (d 10 g)) rfl ?_)
          refine n_iadd rfl ?_
          refine r_istore_n (lv' := [(2, .int (nI ((sm (fun g => if d 9 g = q then d 10 g else 0) g) + (d 10 g)))), (3, .int (nI g)), (0, .ref 10), (1, .int (nI q))]) rfl rfl (Nat.le_of_ble_eq_true rfl) rfl ?_
          refine n_iinc (lv' := [(3, .int (nI (g + 1))), (2, .int (nI ((sm (fun g => if d 9 g = q then d 10 g else 0) g) + (d 10 g)))), (0, .ref 10), (1, .int (nI q))]) 1 rfl rfl (Nat.le_of_ble_eq_true rfl) rfl ?_
          refine r_goto (tgt := 4) rfl rfl ?_
          have e : sm (fun g => if d 9 g = q then d 10 g else 0) (g + 1) = sm (fun g => if d 9 g = q then d 10 g else 0) g + d 10 g := by show sm (fun g => if d 9 g = q then d 10 g else 0) g + (if d 9 g = q then d 10 g else 0) = _; rw [if_pos h2]
          rw [← e]
          refine r_lv (lv' := [(3, .int (nI (g + 1))), (2, .int (nI (sm (fun g => if d 9 g = q then d 10 g else 0) (g + 1)))), (0, .ref 10), (1, .int (nI q))]) [0, 1, 2, 3] rfl ?_
          exact ih (g + 1) (by omega) (by omega)
  exact loop (d 0 3 + 1) 0 (by omega) (by omega)

theorem c_cell_18 {z : SZ} {sc : SC} {σ : SS} {a j q : Nat} {v : Int32} (hj : j < q) (hq : a + q ≤ 79) (hv : σ.1 19 (a + j) = v) : Cs z sc mX8_cell 0 0 [.ref 18, .int (nI a), .int (nI j), .int (nI q)] σ (PI v σ) := by
  refine Cs.of gmX8_cell (Nat.le_of_ble_eq_true rfl) ?_
  show Ws z sc mX8_cell 0 0 0 0 0 [(0, .ref 18), (1, .int (nI a)), (2, .int (nI j)), (3, .int (nI q))] [] (mz σ [] []) (PI v σ)
  refine r_iload_n rfl rfl ?_
  refine r_iload_n rfl rfl ?_
  refine n_iadd rfl ?_
  refine r_istore (lv' := [(4, .int (nI (a + j))), (0, .ref 18), (1, .int (nI a)), (2, .int (nI j)), (3, .int (nI q))]) rfl (Nat.le_of_ble_eq_true rfl) rfl ?_
  refine r_iload_n rfl rfl ?_
  refine n_if_lt (tgt := 33) rfl rfl (by omega) (fun hq => hq.elim) (fun _ => ?_)
  refine r_iload_n rfl rfl ?_
  refine r_iload_n rfl rfl ?_
  refine n_icmp_ge (tgt := 33) rfl rfl (by omega) (by omega) (fun hq => absurd hq (by omega)) (fun _ => ?_)
  refine r_iload rfl rfl ?_
  refine n_if_lt (tgt := 33) rfl rfl (by omega) (fun hq => hq.elim) (fun _ => ?_)
  refine r_iload rfl rfl ?_
  refine r_aload_n rfl rfl ?_
  refine s_getR (r := 19) rfl flX8_11 rfl rfl ?_
  refine s_alen rfl rfl ?_
  refine n_icmp_ge (tgt := 33) rfl rfl (by omega) (by omega) (fun hq => absurd hq (by omega)) (fun _ => ?_)
  refine n_iconst 1 rfl ?_
  refine r_goto (tgt := 34) rfl rfl ?_
  refine r_istore (lv' := [(5, .int (nI 1)), (4, .int (nI (a + j))), (0, .ref 18), (1, .int (nI a)), (2, .int (nI j)), (3, .int (nI q))]) rfl (Nat.le_of_ble_eq_true rfl) rfl ?_
  refine r_iload rfl rfl ?_
  refine n_if_eq (tgt := 51) rfl rfl (by omega) (fun hq => absurd hq (by decide)) (fun _ => ?_)
  refine r_aload_n rfl rfl ?_
  refine s_getR (r := 19) rfl flX8_11 rfl rfl ?_
  refine r_iload rfl rfl ?_
  refine s_iald (x := v) rfl rfl (by omega) hv ?_
  refine r_goto (tgt := 52) rfl rfl ?_
  exact s_ret (st := []) rfl rfl rfl (Nat.zero_le _) (Nat.zero_le _) (pI rfl rfl)

theorem c_putCell_18 {z : SZ} {sc : SC} {σ : SS} {a j q : Nat} {x : Int32} (hj : j < q) (hq : a + q ≤ 79) : Cs z sc mX8_putCell 0 0 [.ref 18, .int (nI a), .int (nI j), .int (nI q), .int x] σ (PV (mz σ [(19, aup (σ.1 19) (a + j) x)] [])) := by
  refine Cs.of gmX8_putCell (Nat.le_of_ble_eq_true rfl) ?_
  show Ws z sc mX8_putCell 0 0 0 0 0 [(0, .ref 18), (1, .int (nI a)), (2, .int (nI j)), (3, .int (nI q)), (4, .int x)] [] (mz σ [] []) (PV (mz σ [(19, aup (σ.1 19) (a + j) x)] []))
  refine r_iload_n rfl rfl ?_
  refine r_iload_n rfl rfl ?_
  refine n_iadd rfl ?_
  refine r_istore (lv' := [(5, .int (nI (a + j))), (0, .ref 18), (1, .int (nI a)), (2, .int (nI j)), (3, .int (nI q)), (4, .int x)]) rfl (Nat.le_of_ble_eq_true rfl) rfl ?_
  refine r_iload_n rfl rfl ?_
  refine n_if_lt (tgt := 38) rfl rfl (by omega) (fun hq => hq.elim) (fun _ => ?_)
  refine r_iload_n rfl rfl ?_
  refine r_iload_n rfl rfl ?_
  refine n_icmp_ge (tgt := 38) rfl rfl (by omega) (by omega) (fun hq => absurd hq (by omega)) (fun _ => ?_)
  refine r_iload rfl rfl ?_
  refine n_if_lt (tgt := 38) rfl rfl (by omega) (fun hq => hq.elim) (fun _ => ?_)
  refine r_iload rfl rfl ?_
  refine r_aload_n rfl rfl ?_
  refine s_getR (r := 19) rfl flX8_11 rfl rfl ?_
  refine s_alen rfl rfl ?_
  refine n_icmp_ge (tgt := 38) rfl rfl (by omega) (by omega) (fun hq => absurd hq (by omega)) (fun _ => ?_)
  refine r_aload_n rfl rfl ?_
  refine s_getR (r := 19) rfl flX8_11 rfl rfl ?_
  refine r_iload rfl rfl ?_
  refine r_iload rfl rfl ?_
  refine m_iast (L' := [(19, (aup (σ.1 19) (a + j) x))]) rfl rfl (by omega) rfl ?_
  exact s_vret (st := []) rfl rfl (Nat.zero_le _) (Nat.zero_le _) (pV rfl)

theorem c_age_18 {z : SZ} {sc : SC} {σ : SS} {d : D} {j : Nat} (hS : SR (σ.1 19) d) (hj : j < 12) : Cs z sc mX8_age 0 0 [.ref 18, .int (nI j)] σ (PI (nI (d 2 j)) σ) := by
  refine Cs.of gmX8_age (Nat.le_of_ble_eq_true rfl) ?_
  show Ws z sc mX8_age 0 0 0 0 0 [(0, .ref 18), (1, .int (nI j))] [] (mz σ [] []) (PI (nI (d 2 j)) σ)
  refine r_aload_n rfl rfl ?_
  refine n_iconst 0 rfl ?_
  refine r_iload_n rfl rfl ?_
  refine n_bipush 12 rfl (by decide) ?_
  refine s_virI [.int (nI 0), .int (nI j), .int (nI 12)] [] rfl lkX8_21 rfl rfl rfl (c_cell_18 (v := nI (d 2 j)) (by omega) (by omega) (SRat hS 2 j (by omega) (sP2 hj))) rfl rfl (Nat.le_refl _) (Nat.le_refl _) rfl (rI (e1 := nI (d 2 j)) rfl ?_)
  exact s_ret (st := []) rfl rfl rfl (Nat.zero_le _) (Nat.zero_le _) (pI rfl rfl)

theorem c_value_18 {z : SZ} {sc : SC} {σ : SS} {d : D} {j : Nat} (hS : SR (σ.1 19) d) (hj : j < 8) : Cs z sc mX8_value 0 0 [.ref 18, .int (nI j)] σ (PI (nI (d 5 j)) σ) := by
  refine Cs.of gmX8_value (Nat.le_of_ble_eq_true rfl) ?_
  show Ws z sc mX8_value 0 0 0 0 0 [(0, .ref 18), (1, .int (nI j))] [] (mz σ [] []) (PI (nI (d 5 j)) σ)
  refine r_aload_n rfl rfl ?_
  refine n_bipush 36 rfl (by decide) ?_
  refine r_iload_n rfl rfl ?_
  refine n_bipush 8 rfl (by decide) ?_
  refine s_virI [.int (nI 36), .int (nI j), .int (nI 8)] [] rfl lkX8_21 rfl rfl rfl (c_cell_18 (v := nI (d 5 j)) (by omega) (by omega) (SRat hS 5 j (by omega) (sP5 hj))) rfl rfl (Nat.le_refl _) (Nat.le_refl _) rfl (rI (e1 := nI (d 5 j)) rfl ?_)
  exact s_ret (st := []) rfl rfl rfl (Nat.zero_le _) (Nat.zero_le _) (pI rfl rfl)

theorem c_debtRank_18 {z : SZ} {sc : SC} {σ : SS} {d : D} {j : Nat} (hS : SR (σ.1 19) d) (hj : j < 8) : Cs z sc mX8_debtRank 0 0 [.ref 18, .int (nI j)] σ (PI (nI (d 7 j)) σ) := by
  refine Cs.of gmX8_debtRank (Nat.le_of_ble_eq_true rfl) ?_
  show Ws z sc mX8_debtRank 0 0 0 0 0 [(0, .ref 18), (1, .int (nI j))] [] (mz σ [] []) (PI (nI (d 7 j)) σ)
  refine r_aload_n rfl rfl ?_
  refine n_bipush 62 rfl (by decide) ?_
  refine r_iload_n rfl rfl ?_
  refine n_bipush 8 rfl (by decide) ?_
  refine s_virI [.int (nI 62), .int (nI j), .int (nI 8)] [] rfl lkX8_21 rfl rfl rfl (c_cell_18 (v := nI (d 7 j)) (by omega) (by omega) (SRat hS 7 j (by omega) (sP7 hj))) rfl rfl (Nat.le_refl _) (Nat.le_refl _) rfl (rI (e1 := nI (d 7 j)) rfl ?_)
  exact s_ret (st := []) rfl rfl rfl (Nat.zero_le _) (Nat.zero_le _) (pI rfl rfl)

theorem c_debtAmount_18 {z : SZ} {sc : SC} {σ : SS} {d : D} {j : Nat} (hS : SR (σ.1 19) d) (hj : j < 8) : Cs z sc mX8_debtAmount 0 0 [.ref 18, .int (nI j)] σ (PI (nI (d 8 j)) σ) := by
  refine Cs.of gmX8_debtAmount (Nat.le_of_ble_eq_true rfl) ?_
  show Ws z sc mX8_debtAmount 0 0 0 0 0 [(0, .ref 18), (1, .int (nI j))] [] (mz σ [] []) (PI (nI (d 8 j)) σ)
  refine r_aload_n rfl rfl ?_
  refine n_bipush 70 rfl (by decide) ?_
  refine r_iload_n rfl rfl ?_
  refine n_bipush 8 rfl (by decide) ?_
  refine s_virI [.int (nI 70), .int (nI j), .int (nI 8)] [] rfl lkX8_21 rfl rfl rfl (c_cell_18 (v := nI (d 8 j)) (by omega) (by omega) (SRat hS 8 j (by omega) (sP8 hj))) rfl rfl (Nat.le_refl _) (Nat.le_refl _) rfl (rI (e1 := nI (d 8 j)) rfl ?_)
  exact s_ret (st := []) rfl rfl rfl (Nat.zero_le _) (Nat.zero_le _) (pI rfl rfl)

theorem c_giftCount_18 {z : SZ} {sc : SC} {σ : SS} {d : D} (hS : SR (σ.1 19) d) : Cs z sc mX8_giftCount 0 0 [.ref 18] σ (PI (nI (d 0 3)) σ) := by
  refine Cs.of gmX8_giftCount (Nat.le_of_ble_eq_true rfl) ?_
  show Ws z sc mX8_giftCount 0 0 0 0 0 [(0, .ref 18)] [] (mz σ [] []) (PI (nI (d 0 3)) σ)
  refine r_aload_n rfl rfl ?_
  refine s_getR (r := 19) rfl flX8_11 rfl rfl ?_
  refine n_bipush 44 rfl (by decide) ?_
  refine s_iald (x := nI (d 0 3)) rfl rfl (by decide) (SRat hS 0 3 (by decide) (by decide)) ?_
  exact s_ret (st := []) rfl rfl rfl (Nat.zero_le _) (Nat.zero_le _) (pI rfl rfl)

theorem c_debtCount_18 {z : SZ} {sc : SC} {σ : SS} {d : D} (hS : SR (σ.1 19) d) : Cs z sc mX8_debtCount 0 0 [.ref 18] σ (PI (nI (d 0 2)) σ) := by
  refine Cs.of gmX8_debtCount (Nat.le_of_ble_eq_true rfl) ?_
  show Ws z sc mX8_debtCount 0 0 0 0 0 [(0, .ref 18)] [] (mz σ [] []) (PI (nI (d 0 2)) σ)
  refine r_aload_n rfl rfl ?_
  refine s_getR (r := 19) rfl flX8_11 rfl rfl ?_
  refine n_bipush 61 rfl (by decide) ?_
  refine s_iald (x := nI (d 0 2)) rfl rfl (by decide) (SRat hS 0 2 (by decide) (by decide)) ?_
  exact s_ret (st := []) rfl rfl rfl (Nat.zero_le _) (Nat.zero_le _) (pI rfl rfl)

theorem c_accruesInLine_18 {z : SZ} {sc : SC} {σ : SS} {d : D} (hS : SR (σ.1 19) d) (hV : Vd d) : Cs z sc mX8_accruesInLine 0 0 [.ref 18] σ (PI (nI (d 0 9)) σ) := by
  refine Cs.of gmX8_accruesInLine (Nat.le_of_ble_eq_true rfl) ?_
  show Ws z sc mX8_accruesInLine 0 0 0 0 0 [(0, .ref 18)] [] (mz σ [] []) (PI (nI (d 0 9)) σ)
  have hC := vC hV
  refine r_aload_n rfl rfl ?_
  refine s_getR (r := 19) rfl flX8_11 rfl rfl ?_
  refine n_bipush 78 rfl (by decide) ?_
  refine s_iald (x := nI (d 0 9)) rfl rfl (by decide) (SRat hS 0 9 (by decide) (by decide)) ?_
  suffices K : Ws z sc mX8_accruesInLine 0 0 0 0 15 [(0, .ref 18)] [.int (nI (d 0 9))] (mz σ [] []) (PI (nI (d 0 9)) σ) by
    refine n_if_eq (tgt := 14) rfl rfl (by omega) (fun h => ?_) (fun h => ?_)
    · refine n_iconst 0 rfl ?_
      exact r_top (by rw [h]) K
    · refine n_iconst 1 rfl ?_
      refine r_goto (tgt := 15) rfl rfl ?_
      exact r_top (by rw [show d 0 9 = 1 by omega]) K
  exact s_ret (st := []) rfl rfl (nar_1 (by omega)) (Nat.zero_le _) (Nat.zero_le _) (pI rfl rfl)

theorem c_isDead_18 {z : SZ} {sc : SC} {σ : SS} {d : D} {j : Nat} (hS : SR (σ.1 19) d) (hV : Vd d) (hj : j < 12) : Cs z sc mX8_isDead 0 0 [.ref 18, .int (nI j)] σ (PI (nI (d 3 j)) σ) := by
  refine Cs.of gmX8_isDead (Nat.le_of_ble_eq_true rfl) ?_
  show Ws z sc mX8_isDead 0 0 0 0 0 [(0, .ref 18), (1, .int (nI j))] [] (mz σ [] []) (PI (nI (d 3 j)) σ)
  have hA := vA hV j
  refine r_aload_n rfl rfl ?_
  refine n_bipush 12 rfl (by decide) ?_
  refine r_iload_n rfl rfl ?_
  refine n_bipush 12 rfl (by decide) ?_
  refine s_virI [.int (nI 12), .int (nI j), .int (nI 12)] [] rfl lkX8_21 rfl rfl rfl (c_cell_18 (v := nI (d 3 j)) (by omega) (by omega) (SRat hS 3 j (by omega) (sP3 hj))) rfl rfl (Nat.le_refl _) (Nat.le_refl _) rfl (rI (e1 := nI (d 3 j)) rfl ?_)
  suffices K : Ws z sc mX8_isDead 0 0 0 0 17 [(0, .ref 18), (1, .int (nI j))] [.int (nI (d 3 j))] (mz σ [] []) (PI (nI (d 3 j)) σ) by
    refine n_if_eq (tgt := 16) rfl rfl (by omega) (fun h => ?_) (fun h => ?_)
    · refine n_iconst 0 rfl ?_
      exact r_top (by rw [h]) K
    · refine n_iconst 1 rfl ?_
      refine r_goto (tgt := 17) rfl rfl ?_
      exact r_top (by rw [show d 3 j = 1 by omega]) K
  exact s_ret (st := []) rfl rfl (nar_1 (by omega)) (Nat.zero_le _) (Nat.zero_le _) (pI rfl rfl)

theorem c_isRefusing_18 {z : SZ} {sc : SC} {σ : SS} {d : D} {j : Nat} (hS : SR (σ.1 19) d) (hV : Vd d) (hj : j < 12) : Cs z sc mX8_isRefusing 0 0 [.ref 18, .int (nI j)] σ (PI (nI (d 4 j)) σ) := by
  refine Cs.of gmX8_isRefusing (Nat.le_of_ble_eq_true rfl) ?_
  show Ws z sc mX8_isRefusing 0 0 0 0 0 [(0, .ref 18), (1, .int (nI j))] [] (mz σ [] []) (PI (nI (d 4 j)) σ)
  have hA := vA hV j
  refine r_aload_n rfl rfl ?_
  refine n_bipush 24 rfl (by decide) ?_
  refine r_iload_n rfl rfl ?_
  refine n_bipush 12 rfl (by decide) ?_
  refine s_virI [.int (nI 24), .int (nI j), .int (nI 12)] [] rfl lkX8_21 rfl rfl rfl (c_cell_18 (v := nI (d 4 j)) (by omega) (by omega) (SRat hS 4 j (by omega) (sP4 hj))) rfl rfl (Nat.le_refl _) (Nat.le_refl _) rfl (rI (e1 := nI (d 4 j)) rfl ?_)
  suffices K : Ws z sc mX8_isRefusing 0 0 0 0 17 [(0, .ref 18), (1, .int (nI j))] [.int (nI (d 4 j))] (mz σ [] []) (PI (nI (d 4 j)) σ) by
    refine n_if_eq (tgt := 16) rfl rfl (by omega) (fun h => ?_) (fun h => ?_)
    · refine n_iconst 0 rfl ?_
      exact r_top (by rw [h]) K
    · refine n_iconst 1 rfl ?_
      refine r_goto (tgt := 17) rfl rfl ?_
      exact r_top (by rw [show d 4 j = 1 by omega]) K
  exact s_ret (st := []) rfl rfl (nar_1 (by omega)) (Nat.zero_le _) (Nat.zero_le _) (pI rfl rfl)

theorem c_takes_18 {z : SZ} {sc : SC} {σ : SS} {d : D} {j : Nat} (hS : SR (σ.1 19) d) (hV : Vd d) (hj : j < 12) : Cs z sc mX8_takes 0 0 [.ref 18, .int (nI j)] σ (PI (nI (tb (tk d j))) σ) := by
  refine Cs.of gmX8_takes (Nat.le_of_ble_eq_true rfl) ?_
  show Ws z sc mX8_takes 0 0 0 0 0 [(0, .ref 18), (1, .int (nI j))] [] (mz σ [] []) (PI (nI (tb (tk d j))) σ)
  have hA := vA hV j
  refine r_aload_n rfl rfl ?_
  refine n_bipush 12 rfl (by decide) ?_
  refine r_iload_n rfl rfl ?_
  refine n_bipush 12 rfl (by decide) ?_
  refine s_virI [.int (nI 12), .int (nI j), .int (nI 12)] [] rfl lkX8_21 rfl rfl rfl (c_cell_18 (v := nI (d 3 j)) (by omega) (by omega) (SRat hS 3 j (by omega) (sP3 hj))) rfl rfl (Nat.le_refl _) (Nat.le_refl _) rfl (rI (e1 := nI (d 3 j)) rfl ?_)
  suffices K : Ws z sc mX8_takes 0 0 0 0 29 [(0, .ref 18), (1, .int (nI j))] [.int (nI (tb (tk d j)))] (mz σ [] []) (PI (nI (tb (tk d j))) σ) by
    refine n_if_ne (tgt := 28) rfl rfl (by omega) (fun h1 => ?_) (fun h1 => ?_)
    · refine n_iconst 0 rfl ?_
      exact r_top (by rw [tk_no (Or.inl h1)]; rfl) K
    · refine r_aload_n rfl rfl ?_
      refine n_bipush 24 rfl (by decide) ?_
      refine r_iload_n rfl rfl ?_
      refine n_bipush 12 rfl (by decide) ?_
      refine s_virI [.int (nI 24), .int (nI j), .int (nI 12)] [] rfl lkX8_21 rfl rfl rfl (c_cell_18 (v := nI (d 4 j)) (by omega) (by omega) (SRat hS 4 j (by omega) (sP4 hj))) rfl rfl (Nat.le_refl _) (Nat.le_refl _) rfl (rI (e1 := nI (d 4 j)) rfl ?_)
      refine n_if_ne (tgt := 28) rfl rfl (by omega) (fun h2 => ?_) (fun h2 => ?_)
      · refine n_iconst 0 rfl ?_
        exact r_top (by rw [tk_no (Or.inr h2)]; rfl) K
      · refine n_iconst 1 rfl ?_
        refine r_goto (tgt := 29) rfl rfl ?_
        exact r_top (by rw [tk_yes h1 h2]; rfl) K
  exact s_ret (st := []) rfl rfl (nar_tb _) (Nat.zero_le _) (Nat.zero_le _) (pI rfl rfl)

theorem c_passesOn_18 {z : SZ} {sc : SC} {σ : SS} {d : D} {j : Nat} (hS : SR (σ.1 19) d) (hV : Vd d) (hj : j < 12) : Cs z sc mX8_passesOn 0 0 [.ref 18, .int (nI j)] σ (PI (nI (tb (go d j))) σ) := by
  refine Cs.of gmX8_passesOn (Nat.le_of_ble_eq_true rfl) ?_
  show Ws z sc mX8_passesOn 0 0 0 0 0 [(0, .ref 18), (1, .int (nI j))] [] (mz σ [] []) (PI (nI (tb (go d j))) σ)
  have hA := vA hV j
  have hC := vC hV
  refine r_aload_n rfl rfl ?_
  refine n_bipush 12 rfl (by decide) ?_
  refine r_iload_n rfl rfl ?_
  refine n_bipush 12 rfl (by decide) ?_
  refine s_virI [.int (nI 12), .int (nI j), .int (nI 12)] [] rfl lkX8_21 rfl rfl rfl (c_cell_18 (v := nI (d 3 j)) (by omega) (by omega) (SRat hS 3 j (by omega) (sP3 hj))) rfl rfl (Nat.le_refl _) (Nat.le_refl _) rfl (rI (e1 := nI (d 3 j)) rfl ?_)
  suffices K : Ws z sc mX8_passesOn 0 0 0 0 39 [(0, .ref 18), (1, .int (nI j))] [.int (nI (tb (go d j)))] (mz σ [] []) (PI (nI (tb (go d j))) σ) by
    refine n_if_ne (tgt := 34) rfl rfl (by omega) (fun h1 => ?_) (fun h1 => ?_)
    · refine n_iconst 1 rfl ?_
      refine r_goto (tgt := 39) rfl rfl ?_
      exact r_top (by rw [go_yes (Or.inl h1)]; rfl) K
    · refine r_aload_n rfl rfl ?_
      refine n_bipush 24 rfl (by decide) ?_
      refine r_iload_n rfl rfl ?_
      refine n_bipush 12 rfl (by decide) ?_
      refine s_virI [.int (nI 24), .int (nI j), .int (nI 12)] [] rfl lkX8_21 rfl rfl rfl (c_cell_18 (v := nI (d 4 j)) (by omega) (by omega) (SRat hS 4 j (by omega) (sP4 hj))) rfl rfl (Nat.le_refl _) (Nat.le_refl _) rfl (rI (e1 := nI (d 4 j)) rfl ?_)
      refine n_if_eq (tgt := 38) rfl rfl (by omega) (fun h2 => ?_) (fun h2 => ?_)
      · refine n_iconst 0 rfl ?_
        exact r_top (by rw [go_no h1 (Or.inl h2)]; rfl) K
      · refine r_aload_n rfl rfl ?_
        refine s_getR (r := 19) rfl flX8_11 rfl rfl ?_
        refine n_bipush 78 rfl (by decide) ?_
        refine s_iald (x := nI (d 0 9)) rfl rfl (by decide) (SRat hS 0 9 (by decide) (by decide)) ?_
        refine n_if_eq (tgt := 38) rfl rfl (by omega) (fun h3 => ?_) (fun h3 => ?_)
        · refine n_iconst 0 rfl ?_
          exact r_top (by rw [go_no h1 (Or.inr h3)]; rfl) K
        · refine n_iconst 1 rfl ?_
          refine r_goto (tgt := 39) rfl rfl ?_
          exact r_top (by rw [go_yes (Or.inr ⟨h2, h3⟩)]; rfl) K
  exact s_ret (st := []) rfl rfl (nar_tb _) (Nat.zero_le _) (Nat.zero_le _) (pI rfl rfl)

theorem c_giftsTo_18 {z : SZ} {sc : SC} {σ : SS} {d : D} {q : Nat} (hS : SR (σ.1 19) d) (hV : Vd d) (hq : q < 12) : Cs z sc mX8_giftsTo 0 0 [.ref 18, .int (nI q)] σ (PI (nI (gf d q)) σ) := by
  refine Cs.of gmX8_giftsTo (Nat.le_of_ble_eq_true rfl) ?_
  show Ws z sc mX8_giftsTo 0 0 0 0 0 [(0, .ref 18), (1, .int (nI q))] [] (mz σ [] []) (PI (nI (gf d q)) σ)
  have hC := vC hV
  refine n_iconst 0 rfl ?_
  refine r_istore_n (lv' := [(2, .int (nI 0)), (0, .ref 18), (1, .int (nI q))]) rfl rfl (Nat.le_of_ble_eq_true rfl) rfl ?_
  refine n_iconst 0 rfl ?_
  refine r_istore_n (lv' := [(3, .int (nI 0)), (2, .int (nI 0)), (0, .ref 18), (1, .int (nI q))]) rfl rfl (Nat.le_of_ble_eq_true rfl) rfl ?_
  refine r_lv (lv' := [(3, .int (nI 0)), (2, .int (nI 0)), (0, .ref 18), (1, .int (nI q))]) [0, 1, 2, 3] rfl ?_
  have loop : ∀ (m9 : Nat) (g : Nat) , d 0 3 - g < m9 → (g ≤ d 0 3) → Ws z sc mX8_giftsTo 0 0 0 0 4 [(3, .int (nI g)), (2, .int (nI (sm (fun g => if d 9 g = q then d 10 g else 0) g))), (0, .ref 18), (1, .int (nI q))] [] (mz σ [] []) (PI (nI (gf d q)) σ) := by
    intro m9
    induction m9 with
    | zero => intro g  hme; exact absurd hme (Nat.not_lt_zero _)
    | succ m9 ih =>
      intro g  hme hg
      have hG := vG hV g
      refine r_iload_n rfl rfl ?_
      refine r_aload_n rfl rfl ?_
      refine s_virI [] [.int (nI g)] rfl lkX8_25 rfl rfl rfl (c_giftCount_18 hS) rfl rfl (Nat.le_refl _) (Nat.le_refl _) rfl (rI (e1 := nI (d 0 3)) rfl ?_)
      refine n_icmp_ge (tgt := 43) rfl rfl (by omega) (by omega) (fun h1 => ?_) (fun h1 => ?_)
      · refine r_iload_n rfl rfl ?_
        exact s_ret (st := []) rfl rfl rfl (Nat.zero_le _) (Nat.zero_le _) (pI (by rw [show g = d 0 3 by omega]; rfl) rfl)
      · refine r_aload_n rfl rfl ?_
        refine n_bipush 45 rfl (by decide) ?_
        refine r_iload_n rfl rfl ?_
        refine n_bipush 8 rfl (by decide) ?_
        refine s_virI [.int (nI 45), .int (nI g), .int (nI 8)] [] rfl lkX8_21 rfl rfl rfl (c_cell_18 (v := nI (d 9 g)) (by omega) (by omega) (SRat hS 9 g (by omega) (sP9 (by omega)))) rfl rfl (Nat.le_refl _) (Nat.le_refl _) rfl (rI (e1 := nI (d 9 g)) rfl ?_)
        refine r_iload_n rfl rfl ?_
        refine n_icmp_ne (tgt := 37) rfl rfl (by omega) (by omega) (fun h2 => ?_) (fun h2 => ?_)
        · refine n_iinc (lv' := [(3, .int (nI (g + 1))), (2, .int (nI (sm (fun g => if d 9 g = q then d 10 g else 0) g))), (0, .ref 18), (1, .int (nI q))]) 1 rfl rfl (Nat.le_of_ble_eq_true rfl) rfl ?_
          refine r_goto (tgt := 4) rfl rfl ?_
          have e : sm (fun g => if d 9 g = q then d 10 g else 0) (g + 1) = sm (fun g => if d 9 g = q then d 10 g else 0) g := by show sm (fun g => if d 9 g = q then d 10 g else 0) g + (if d 9 g = q then d 10 g else 0) = _; rw [if_neg h2, Nat.add_zero]
          rw [← e]
          refine r_lv (lv' := [(3, .int (nI (g + 1))), (2, .int (nI (sm (fun g => if d 9 g = q then d 10 g else 0) (g + 1)))), (0, .ref 18), (1, .int (nI q))]) [0, 1, 2, 3] rfl ?_
          exact ih (g + 1) (by omega) (by omega)
        · refine r_iload_n rfl rfl ?_
          refine r_aload_n rfl rfl ?_
          refine n_bipush 53 rfl (by decide) ?_
          refine r_iload_n rfl rfl ?_
          refine n_bipush 8 rfl (by decide) ?_
          refine s_virI [.int (nI 53), .int (nI g), .int (nI 8)] [.int (nI (sm (fun g => if d 9 g = q then d 10 g else 0) g))] rfl lkX8_21 rfl rfl rfl (c_cell_18 (v := nI (d 10 g)) (by omega) (by omega) (SRat hS 10 g (by omega) (sP10 (by omega)))) rfl rfl (Nat.le_refl _) (Nat.le_refl _) rfl (rI (e1 := nI (d 10 g)) rfl ?_)
          refine n_iadd rfl ?_
          refine r_istore_n (lv' := [(2, .int (nI ((sm (fun g => if d 9 g = q then d 10 g else 0) g) + (d 10 g)))), (3, .int (nI g)), (0, .ref 18), (1, .int (nI q))]) rfl rfl (Nat.le_of_ble_eq_true rfl) rfl ?_
          refine n_iinc (lv' := [(3, .int (nI (g + 1))), (2, .int (nI ((sm (fun g => if d 9 g = q then d 10 g else 0) g) + (d 10 g)))), (0, .ref 18), (1, .int (nI q))]) 1 rfl rfl (Nat.le_of_ble_eq_true rfl) rfl ?_
          refine r_goto (tgt := 4) rfl rfl ?_
          have e : sm (fun g => if d 9 g = q then d 10 g else 0) (g + 1) = sm (fun g => if d 9 g = q then d 10 g else 0) g + d 10 g := by show sm (fun g => if d 9 g = q then d 10 g else 0) g + (if d 9 g = q then d 10 g else 0) = _; rw [if_pos h2]
          rw [← e]
          refine r_lv (lv' := [(3, .int (nI (g + 1))), (2, .int (nI (sm (fun g => if d 9 g = q then d 10 g else 0) (g + 1)))), (0, .ref 18), (1, .int (nI q))]) [0, 1, 2, 3] rfl ?_
          exact ih (g + 1) (by omega) (by omega)
  exact loop (d 0 3 + 1) 0 (by omega) (by omega)

theorem c_cell_34 {z : SZ} {sc : SC} {σ : SS} {a j q : Nat} {v : Int32} (hj : j < q) (hq : a + q ≤ 79) (hv : σ.1 35 (a + j) = v) : Cs z sc mX8_cell 0 0 [.ref 34, .int (nI a), .int (nI j), .int (nI q)] σ (PI v σ) := by
  refine Cs.of gmX8_cell (Nat.le_of_ble_eq_true rfl) ?_
  show Ws z sc mX8_cell 0 0 0 0 0 [(0, .ref 34), (1, .int (nI a)), (2, .int (nI j)), (3, .int (nI q))] [] (mz σ [] []) (PI v σ)
  refine r_iload_n rfl rfl ?_
  refine r_iload_n rfl rfl ?_
  refine n_iadd rfl ?_
  refine r_istore (lv' := [(4, .int (nI (a + j))), (0, .ref 34), (1, .int (nI a)), (2, .int (nI j)), (3, .int (nI q))]) rfl (Nat.le_of_ble_eq_true rfl) rfl ?_
  refine r_iload_n rfl rfl ?_
  refine n_if_lt (tgt := 33) rfl rfl (by omega) (fun hq => hq.elim) (fun _ => ?_)
  refine r_iload_n rfl rfl ?_
  refine r_iload_n rfl rfl ?_
  refine n_icmp_ge (tgt := 33) rfl rfl (by omega) (by omega) (fun hq => absurd hq (by omega)) (fun _ => ?_)
  refine r_iload rfl rfl ?_
  refine n_if_lt (tgt := 33) rfl rfl (by omega) (fun hq => hq.elim) (fun _ => ?_)
  refine r_iload rfl rfl ?_
  refine r_aload_n rfl rfl ?_
  refine s_getR (r := 35) rfl flX8_11 rfl rfl ?_
  refine s_alen rfl rfl ?_
  refine n_icmp_ge (tgt := 33) rfl rfl (by omega) (by omega) (fun hq => absurd hq (by omega)) (fun _ => ?_)
  refine n_iconst 1 rfl ?_
  refine r_goto (tgt := 34) rfl rfl ?_
  refine r_istore (lv' := [(5, .int (nI 1)), (4, .int (nI (a + j))), (0, .ref 34), (1, .int (nI a)), (2, .int (nI j)), (3, .int (nI q))]) rfl (Nat.le_of_ble_eq_true rfl) rfl ?_
  refine r_iload rfl rfl ?_
  refine n_if_eq (tgt := 51) rfl rfl (by omega) (fun hq => absurd hq (by decide)) (fun _ => ?_)
  refine r_aload_n rfl rfl ?_
  refine s_getR (r := 35) rfl flX8_11 rfl rfl ?_
  refine r_iload rfl rfl ?_
  refine s_iald (x := v) rfl rfl (by omega) hv ?_
  refine r_goto (tgt := 52) rfl rfl ?_
  exact s_ret (st := []) rfl rfl rfl (Nat.zero_le _) (Nat.zero_le _) (pI rfl rfl)

theorem c_putCell_34 {z : SZ} {sc : SC} {σ : SS} {a j q : Nat} {x : Int32} (hj : j < q) (hq : a + q ≤ 79) : Cs z sc mX8_putCell 0 0 [.ref 34, .int (nI a), .int (nI j), .int (nI q), .int x] σ (PV (mz σ [(35, aup (σ.1 35) (a + j) x)] [])) := by
  refine Cs.of gmX8_putCell (Nat.le_of_ble_eq_true rfl) ?_
  show Ws z sc mX8_putCell 0 0 0 0 0 [(0, .ref 34), (1, .int (nI a)), (2, .int (nI j)), (3, .int (nI q)), (4, .int x)] [] (mz σ [] []) (PV (mz σ [(35, aup (σ.1 35) (a + j) x)] []))
  refine r_iload_n rfl rfl ?_
  refine r_iload_n rfl rfl ?_
  refine n_iadd rfl ?_
  refine r_istore (lv' := [(5, .int (nI (a + j))), (0, .ref 34), (1, .int (nI a)), (2, .int (nI j)), (3, .int (nI q)), (4, .int x)]) rfl (Nat.le_of_ble_eq_true rfl) rfl ?_
  refine r_iload_n rfl rfl ?_
  refine n_if_lt (tgt := 38) rfl rfl (by omega) (fun hq => hq.elim) (fun _ => ?_)
  refine r_iload_n rfl rfl ?_
  refine r_iload_n rfl rfl ?_
  refine n_icmp_ge (tgt := 38) rfl rfl (by omega) (by omega) (fun hq => absurd hq (by omega)) (fun _ => ?_)
  refine r_iload rfl rfl ?_
  refine n_if_lt (tgt := 38) rfl rfl (by omega) (fun hq => hq.elim) (fun _ => ?_)
  refine r_iload rfl rfl ?_
  refine r_aload_n rfl rfl ?_
  refine s_getR (r := 35) rfl flX8_11 rfl rfl ?_
  refine s_alen rfl rfl ?_
  refine n_icmp_ge (tgt := 38) rfl rfl (by omega) (by omega) (fun hq => absurd hq (by omega)) (fun _ => ?_)
  refine r_aload_n rfl rfl ?_
  refine s_getR (r := 35) rfl flX8_11 rfl rfl ?_
  refine r_iload rfl rfl ?_
  refine r_iload rfl rfl ?_
  refine m_iast (L' := [(35, (aup (σ.1 35) (a + j) x))]) rfl rfl (by omega) rfl ?_
  exact s_vret (st := []) rfl rfl (Nat.zero_le _) (Nat.zero_le _) (pV rfl)

theorem c_age_34 {z : SZ} {sc : SC} {σ : SS} {d : D} {j : Nat} (hS : SR (σ.1 35) d) (hj : j < 12) : Cs z sc mX8_age 0 0 [.ref 34, .int (nI j)] σ (PI (nI (d 2 j)) σ) := by
  refine Cs.of gmX8_age (Nat.le_of_ble_eq_true rfl) ?_
  show Ws z sc mX8_age 0 0 0 0 0 [(0, .ref 34), (1, .int (nI j))] [] (mz σ [] []) (PI (nI (d 2 j)) σ)
  refine r_aload_n rfl rfl ?_
  refine n_iconst 0 rfl ?_
  refine r_iload_n rfl rfl ?_
  refine n_bipush 12 rfl (by decide) ?_
  refine s_virI [.int (nI 0), .int (nI j), .int (nI 12)] [] rfl lkX8_21 rfl rfl rfl (c_cell_34 (v := nI (d 2 j)) (by omega) (by omega) (SRat hS 2 j (by omega) (sP2 hj))) rfl rfl (Nat.le_refl _) (Nat.le_refl _) rfl (rI (e1 := nI (d 2 j)) rfl ?_)
  exact s_ret (st := []) rfl rfl rfl (Nat.zero_le _) (Nat.zero_le _) (pI rfl rfl)

theorem c_value_34 {z : SZ} {sc : SC} {σ : SS} {d : D} {j : Nat} (hS : SR (σ.1 35) d) (hj : j < 8) : Cs z sc mX8_value 0 0 [.ref 34, .int (nI j)] σ (PI (nI (d 5 j)) σ) := by
  refine Cs.of gmX8_value (Nat.le_of_ble_eq_true rfl) ?_
  show Ws z sc mX8_value 0 0 0 0 0 [(0, .ref 34), (1, .int (nI j))] [] (mz σ [] []) (PI (nI (d 5 j)) σ)
  refine r_aload_n rfl rfl ?_
  refine n_bipush 36 rfl (by decide) ?_
  refine r_iload_n rfl rfl ?_
  refine n_bipush 8 rfl (by decide) ?_
  refine s_virI [.int (nI 36), .int (nI j), .int (nI 8)] [] rfl lkX8_21 rfl rfl rfl (c_cell_34 (v := nI (d 5 j)) (by omega) (by omega) (SRat hS 5 j (by omega) (sP5 hj))) rfl rfl (Nat.le_refl _) (Nat.le_refl _) rfl (rI (e1 := nI (d 5 j)) rfl ?_)
  exact s_ret (st := []) rfl rfl rfl (Nat.zero_le _) (Nat.zero_le _) (pI rfl rfl)

theorem c_debtRank_34 {z : SZ} {sc : SC} {σ : SS} {d : D} {j : Nat} (hS : SR (σ.1 35) d) (hj : j < 8) : Cs z sc mX8_debtRank 0 0 [.ref 34, .int (nI j)] σ (PI (nI (d 7 j)) σ) := by
  refine Cs.of gmX8_debtRank (Nat.le_of_ble_eq_true rfl) ?_
  show Ws z sc mX8_debtRank 0 0 0 0 0 [(0, .ref 34), (1, .int (nI j))] [] (mz σ [] []) (PI (nI (d 7 j)) σ)
  refine r_aload_n rfl rfl ?_
  refine n_bipush 62 rfl (by decide) ?_
  refine r_iload_n rfl rfl ?_
  refine n_bipush 8 rfl (by decide) ?_
  refine s_virI [.int (nI 62), .int (nI j), .int (nI 8)] [] rfl lkX8_21 rfl rfl rfl (c_cell_34 (v := nI (d 7 j)) (by omega) (by omega) (SRat hS 7 j (by omega) (sP7 hj))) rfl rfl (Nat.le_refl _) (Nat.le_refl _) rfl (rI (e1 := nI (d 7 j)) rfl ?_)
  exact s_ret (st := []) rfl rfl rfl (Nat.zero_le _) (Nat.zero_le _) (pI rfl rfl)

theorem c_debtAmount_34 {z : SZ} {sc : SC} {σ : SS} {d : D} {j : Nat} (hS : SR (σ.1 35) d) (hj : j < 8) : Cs z sc mX8_debtAmount 0 0 [.ref 34, .int (nI j)] σ (PI (nI (d 8 j)) σ) := by
  refine Cs.of gmX8_debtAmount (Nat.le_of_ble_eq_true rfl) ?_
  show Ws z sc mX8_debtAmount 0 0 0 0 0 [(0, .ref 34), (1, .int (nI j))] [] (mz σ [] []) (PI (nI (d 8 j)) σ)
  refine r_aload_n rfl rfl ?_
  refine n_bipush 70 rfl (by decide) ?_
  refine r_iload_n rfl rfl ?_
  refine n_bipush 8 rfl (by decide) ?_
  refine s_virI [.int (nI 70), .int (nI j), .int (nI 8)] [] rfl lkX8_21 rfl rfl rfl (c_cell_34 (v := nI (d 8 j)) (by omega) (by omega) (SRat hS 8 j (by omega) (sP8 hj))) rfl rfl (Nat.le_refl _) (Nat.le_refl _) rfl (rI (e1 := nI (d 8 j)) rfl ?_)
  exact s_ret (st := []) rfl rfl rfl (Nat.zero_le _) (Nat.zero_le _) (pI rfl rfl)

theorem c_giftCount_34 {z : SZ} {sc : SC} {σ : SS} {d : D} (hS : SR (σ.1 35) d) : Cs z sc mX8_giftCount 0 0 [.ref 34] σ (PI (nI (d 0 3)) σ) := by
  refine Cs.of gmX8_giftCount (Nat.le_of_ble_eq_true rfl) ?_
  show Ws z sc mX8_giftCount 0 0 0 0 0 [(0, .ref 34)] [] (mz σ [] []) (PI (nI (d 0 3)) σ)
  refine r_aload_n rfl rfl ?_
  refine s_getR (r := 35) rfl flX8_11 rfl rfl ?_
  refine n_bipush 44 rfl (by decide) ?_
  refine s_iald (x := nI (d 0 3)) rfl rfl (by decide) (SRat hS 0 3 (by decide) (by decide)) ?_
  exact s_ret (st := []) rfl rfl rfl (Nat.zero_le _) (Nat.zero_le _) (pI rfl rfl)

theorem c_debtCount_34 {z : SZ} {sc : SC} {σ : SS} {d : D} (hS : SR (σ.1 35) d) : Cs z sc mX8_debtCount 0 0 [.ref 34] σ (PI (nI (d 0 2)) σ) := by
  refine Cs.of gmX8_debtCount (Nat.le_of_ble_eq_true rfl) ?_
  show Ws z sc mX8_debtCount 0 0 0 0 0 [(0, .ref 34)] [] (mz σ [] []) (PI (nI (d 0 2)) σ)
  refine r_aload_n rfl rfl ?_
  refine s_getR (r := 35) rfl flX8_11 rfl rfl ?_
  refine n_bipush 61 rfl (by decide) ?_
  refine s_iald (x := nI (d 0 2)) rfl rfl (by decide) (SRat hS 0 2 (by decide) (by decide)) ?_
  exact s_ret (st := []) rfl rfl rfl (Nat.zero_le _) (Nat.zero_le _) (pI rfl rfl)

theorem c_accruesInLine_34 {z : SZ} {sc : SC} {σ : SS} {d : D} (hS : SR (σ.1 35) d) (hV : Vd d) : Cs z sc mX8_accruesInLine 0 0 [.ref 34] σ (PI (nI (d 0 9)) σ) := by
  refine Cs.of gmX8_accruesInLine (Nat.le_of_ble_eq_true rfl) ?_
  show Ws z sc mX8_accruesInLine 0 0 0 0 0 [(0, .ref 34)] [] (mz σ [] []) (PI (nI (d 0 9)) σ)
  have hC := vC hV
  refine r_aload_n rfl rfl ?_
  refine s_getR (r := 35) rfl flX8_11 rfl rfl ?_
  refine n_bipush 78 rfl (by decide) ?_
  refine s_iald (x := nI (d 0 9)) rfl rfl (by decide) (SRat hS 0 9 (by decide) (by decide)) ?_
  suffices K : Ws z sc mX8_accruesInLine 0 0 0 0 15 [(0, .ref 34)] [.int (nI (d 0 9))] (mz σ [] []) (PI (nI (d 0 9)) σ) by
    refine n_if_eq (tgt := 14) rfl rfl (by omega) (fun h => ?_) (fun h => ?_)
    · refine n_iconst 0 rfl ?_
      exact r_top (by rw [h]) K
    · refine n_iconst 1 rfl ?_
      refine r_goto (tgt := 15) rfl rfl ?_
      exact r_top (by rw [show d 0 9 = 1 by omega]) K
  exact s_ret (st := []) rfl rfl (nar_1 (by omega)) (Nat.zero_le _) (Nat.zero_le _) (pI rfl rfl)

theorem c_isDead_34 {z : SZ} {sc : SC} {σ : SS} {d : D} {j : Nat} (hS : SR (σ.1 35) d) (hV : Vd d) (hj : j < 12) : Cs z sc mX8_isDead 0 0 [.ref 34, .int (nI j)] σ (PI (nI (d 3 j)) σ) := by
  refine Cs.of gmX8_isDead (Nat.le_of_ble_eq_true rfl) ?_
  show Ws z sc mX8_isDead 0 0 0 0 0 [(0, .ref 34), (1, .int (nI j))] [] (mz σ [] []) (PI (nI (d 3 j)) σ)
  have hA := vA hV j
  refine r_aload_n rfl rfl ?_
  refine n_bipush 12 rfl (by decide) ?_
  refine r_iload_n rfl rfl ?_
  refine n_bipush 12 rfl (by decide) ?_
  refine s_virI [.int (nI 12), .int (nI j), .int (nI 12)] [] rfl lkX8_21 rfl rfl rfl (c_cell_34 (v := nI (d 3 j)) (by omega) (by omega) (SRat hS 3 j (by omega) (sP3 hj))) rfl rfl (Nat.le_refl _) (Nat.le_refl _) rfl (rI (e1 := nI (d 3 j)) rfl ?_)
  suffices K : Ws z sc mX8_isDead 0 0 0 0 17 [(0, .ref 34), (1, .int (nI j))] [.int (nI (d 3 j))] (mz σ [] []) (PI (nI (d 3 j)) σ) by
    refine n_if_eq (tgt := 16) rfl rfl (by omega) (fun h => ?_) (fun h => ?_)
    · refine n_iconst 0 rfl ?_
      exact r_top (by rw [h]) K
    · refine n_iconst 1 rfl ?_
      refine r_goto (tgt := 17) rfl rfl ?_
      exact r_top (by rw [show d 3 j = 1 by omega]) K
  exact s_ret (st := []) rfl rfl (nar_1 (by omega)) (Nat.zero_le _) (Nat.zero_le _) (pI rfl rfl)

theorem c_isRefusing_34 {z : SZ} {sc : SC} {σ : SS} {d : D} {j : Nat} (hS : SR (σ.1 35) d) (hV : Vd d) (hj : j < 12) : Cs z sc mX8_isRefusing 0 0 [.ref 34, .int (nI j)] σ (PI (nI (d 4 j)) σ) := by
  refine Cs.of gmX8_isRefusing (Nat.le_of_ble_eq_true rfl) ?_
  show Ws z sc mX8_isRefusing 0 0 0 0 0 [(0, .ref 34), (1, .int (nI j))] [] (mz σ [] []) (PI (nI (d 4 j)) σ)
  have hA := vA hV j
  refine r_aload_n rfl rfl ?_
  refine n_bipush 24 rfl (by decide) ?_
  refine r_iload_n rfl rfl ?_
  refine n_bipush 12 rfl (by decide) ?_
  refine s_virI [.int (nI 24), .int (nI j), .int (nI 12)] [] rfl lkX8_21 rfl rfl rfl (c_cell_34 (v := nI (d 4 j)) (by omega) (by omega) (SRat hS 4 j (by omega) (sP4 hj))) rfl rfl (Nat.le_refl _) (Nat.le_refl _) rfl (rI (e1 := nI (d 4 j)) rfl ?_)
  suffices K : Ws z sc mX8_isRefusing 0 0 0 0 17 [(0, .ref 34), (1, .int (nI j))] [.int (nI (d 4 j))] (mz σ [] []) (PI (nI (d 4 j)) σ) by
    refine n_if_eq (tgt := 16) rfl rfl (by omega) (fun h => ?_) (fun h => ?_)
    · refine n_iconst 0 rfl ?_
      exact r_top (by rw [h]) K
    · refine n_iconst 1 rfl ?_
      refine r_goto (tgt := 17) rfl rfl ?_
      exact r_top (by rw [show d 4 j = 1 by omega]) K
  exact s_ret (st := []) rfl rfl (nar_1 (by omega)) (Nat.zero_le _) (Nat.zero_le _) (pI rfl rfl)

theorem c_takes_34 {z : SZ} {sc : SC} {σ : SS} {d : D} {j : Nat} (hS : SR (σ.1 35) d) (hV : Vd d) (hj : j < 12) : Cs z sc mX8_takes 0 0 [.ref 34, .int (nI j)] σ (PI (nI (tb (tk d j))) σ) := by
  refine Cs.of gmX8_takes (Nat.le_of_ble_eq_true rfl) ?_
  show Ws z sc mX8_takes 0 0 0 0 0 [(0, .ref 34), (1, .int (nI j))] [] (mz σ [] []) (PI (nI (tb (tk d j))) σ)
  have hA := vA hV j
  refine r_aload_n rfl rfl ?_
  refine n_bipush 12 rfl (by decide) ?_
  refine r_iload_n rfl rfl ?_
  refine n_bipush 12 rfl (by decide) ?_
  refine s_virI [.int (nI 12), .int (nI j), .int (nI 12)] [] rfl lkX8_21 rfl rfl rfl (c_cell_34 (v := nI (d 3 j)) (by omega) (by omega) (SRat hS 3 j (by omega) (sP3 hj))) rfl rfl (Nat.le_refl _) (Nat.le_refl _) rfl (rI (e1 := nI (d 3 j)) rfl ?_)
  suffices K : Ws z sc mX8_takes 0 0 0 0 29 [(0, .ref 34), (1, .int (nI j))] [.int (nI (tb (tk d j)))] (mz σ [] []) (PI (nI (tb (tk d j))) σ) by
    refine n_if_ne (tgt := 28) rfl rfl (by omega) (fun h1 => ?_) (fun h1 => ?_)
    · refine n_iconst 0 rfl ?_
      exact r_top (by rw [tk_no (Or.inl h1)]; rfl) K
    · refine r_aload_n rfl rfl ?_
      refine n_bipush 24 rfl (by decide) ?_
      refine r_iload_n rfl rfl ?_
      refine n_bipush 12 rfl (by decide) ?_
      refine s_virI [.int (nI 24), .int (nI j), .int (nI 12)] [] rfl lkX8_21 rfl rfl rfl (c_cell_34 (v := nI (d 4 j)) (by omega) (by omega) (SRat hS 4 j (by omega) (sP4 hj))) rfl rfl (Nat.le_refl _) (Nat.le_refl _) rfl (rI (e1 := nI (d 4 j)) rfl ?_)
      refine n_if_ne (tgt := 28) rfl rfl (by omega) (fun h2 => ?_) (fun h2 => ?_)
      · refine n_iconst 0 rfl ?_
        exact r_top (by rw [tk_no (Or.inr h2)]; rfl) K
      · refine n_iconst 1 rfl ?_
        refine r_goto (tgt := 29) rfl rfl ?_
        exact r_top (by rw [tk_yes h1 h2]; rfl) K
  exact s_ret (st := []) rfl rfl (nar_tb _) (Nat.zero_le _) (Nat.zero_le _) (pI rfl rfl)

theorem c_passesOn_34 {z : SZ} {sc : SC} {σ : SS} {d : D} {j : Nat} (hS : SR (σ.1 35) d) (hV : Vd d) (hj : j < 12) : Cs z sc mX8_passesOn 0 0 [.ref 34, .int (nI j)] σ (PI (nI (tb (go d j))) σ) := by
  refine Cs.of gmX8_passesOn (Nat.le_of_ble_eq_true rfl) ?_
  show Ws z sc mX8_passesOn 0 0 0 0 0 [(0, .ref 34), (1, .int (nI j))] [] (mz σ [] []) (PI (nI (tb (go d j))) σ)
  have hA := vA hV j
  have hC := vC hV
  refine r_aload_n rfl rfl ?_
  refine n_bipush 12 rfl (by decide) ?_
  refine r_iload_n rfl rfl ?_
  refine n_bipush 12 rfl (by decide) ?_
  refine s_virI [.int (nI 12), .int (nI j), .int (nI 12)] [] rfl lkX8_21 rfl rfl rfl (c_cell_34 (v := nI (d 3 j)) (by omega) (by omega) (SRat hS 3 j (by omega) (sP3 hj))) rfl rfl (Nat.le_refl _) (Nat.le_refl _) rfl (rI (e1 := nI (d 3 j)) rfl ?_)
  suffices K : Ws z sc mX8_passesOn 0 0 0 0 39 [(0, .ref 34), (1, .int (nI j))] [.int (nI (tb (go d j)))] (mz σ [] []) (PI (nI (tb (go d j))) σ) by
    refine n_if_ne (tgt := 34) rfl rfl (by omega) (fun h1 => ?_) (fun h1 => ?_)
    · refine n_iconst 1 rfl ?_
      refine r_goto (tgt := 39) rfl rfl ?_
      exact r_top (by rw [go_yes (Or.inl h1)]; rfl) K
    · refine r_aload_n rfl rfl ?_
      refine n_bipush 24 rfl (by decide) ?_
      refine r_iload_n rfl rfl ?_
      refine n_bipush 12 rfl (by decide) ?_
      refine s_virI [.int (nI 24), .int (nI j), .int (nI 12)] [] rfl lkX8_21 rfl rfl rfl (c_cell_34 (v := nI (d 4 j)) (by omega) (by omega) (SRat hS 4 j (by omega) (sP4 hj))) rfl rfl (Nat.le_refl _) (Nat.le_refl _) rfl (rI (e1 := nI (d 4 j)) rfl ?_)
      refine n_if_eq (tgt := 38) rfl rfl (by omega) (fun h2 => ?_) (fun h2 => ?_)
      · refine n_iconst 0 rfl ?_
        exact r_top (by rw [go_no h1 (Or.inl h2)]; rfl) K
      · refine r_aload_n rfl rfl ?_
        refine s_getR (r := 35) rfl flX8_11 rfl rfl ?_
        refine n_bipush 78 rfl (by decide) ?_
        refine s_iald (x := nI (d 0 9)) rfl rfl (by decide) (SRat hS 0 9 (by decide) (by decide)) ?_
        refine n_if_eq (tgt := 38) rfl rfl (by omega) (fun h3 => ?_) (fun h3 => ?_)
        · refine n_iconst 0 rfl ?_
          exact r_top (by rw [go_no h1 (Or.inr h3)]; rfl) K
        · refine n_iconst 1 rfl ?_
          refine r_goto (tgt := 39) rfl rfl ?_
          exact r_top (by rw [go_yes (Or.inr ⟨h2, h3⟩)]; rfl) K
  exact s_ret (st := []) rfl rfl (nar_tb _) (Nat.zero_le _) (Nat.zero_le _) (pI rfl rfl)

theorem c_giftsTo_34 {z : SZ} {sc : SC} {σ : SS} {d : D} {q : Nat} (hS : SR (σ.1 35) d) (hV : Vd d) (hq : q < 12) : Cs z sc mX8_giftsTo 0 0 [.ref 34, .int (nI q)] σ (PI (nI (gf d q)) σ) := by
  refine Cs.of gmX8_giftsTo (Nat.le_of_ble_eq_true rfl) ?_
  show Ws z sc mX8_giftsTo 0 0 0 0 0 [(0, .ref 34), (1, .int (nI q))] [] (mz σ [] []) (PI (nI (gf d q)) σ)
  have hC := vC hV
  refine n_iconst 0 rfl ?_
  refine r_istore_n (lv' := [(2, .int (nI 0)), (0, .ref 34), (1, .int (nI q))]) rfl rfl (Nat.le_of_ble_eq_true rfl) rfl ?_
  refine n_iconst 0 rfl ?_
  refine r_istore_n (lv' := [(3, .int (nI 0)), (2, .int (nI 0)), (0, .ref 34), (1, .int (nI q))]) rfl rfl (Nat.le_of_ble_eq_true rfl) rfl ?_
  refine r_lv (lv' := [(3, .int (nI 0)), (2, .int (nI 0)), (0, .ref 34), (1, .int (nI q))]) [0, 1, 2, 3] rfl ?_
  have loop : ∀ (m9 : Nat) (g : Nat) , d 0 3 - g < m9 → (g ≤ d 0 3) → Ws z sc mX8_giftsTo 0 0 0 0 4 [(3, .int (nI g)), (2, .int (nI (sm (fun g => if d 9 g = q then d 10 g else 0) g))), (0, .ref 34), (1, .int (nI q))] [] (mz σ [] []) (PI (nI (gf d q)) σ) := by
    intro m9
    induction m9 with
    | zero => intro g  hme; exact absurd hme (Nat.not_lt_zero _)
    | succ m9 ih =>
      intro g  hme hg
      have hG := vG hV g
      refine r_iload_n rfl rfl ?_
      refine r_aload_n rfl rfl ?_
      refine s_virI [] [.int (nI g)] rfl lkX8_25 rfl rfl rfl (c_giftCount_34 hS) rfl rfl (Nat.le_refl _) (Nat.le_refl _) rfl (rI (e1 := nI (d 0 3)) rfl ?_)
      refine n_icmp_ge (tgt := 43) rfl rfl (by omega) (by omega) (fun h1 => ?_) (fun h1 => ?_)
      · refine r_iload_n rfl rfl ?_
        exact s_ret (st := []) rfl rfl rfl (Nat.zero_le _) (Nat.zero_le _) (pI (by rw [show g = d 0 3 by omega]; rfl) rfl)
      · refine r_aload_n rfl rfl ?_
        refine n_bipush 45 rfl (by decide) ?_
        refine r_iload_n rfl rfl ?_
        refine n_bipush 8 rfl (by decide) ?_
        refine s_virI [.int (nI 45), .int (nI g), .int (nI 8)] [] rfl lkX8_21 rfl rfl rfl (c_cell_34 (v := nI (d 9 g)) (by omega) (by omega) (SRat hS 9 g (by omega) (sP9 (by omega)))) rfl rfl (Nat.le_refl _) (Nat.le_refl _) rfl (rI (e1 := nI (d 9 g)) rfl ?_)
        refine r_iload_n rfl rfl ?_
        refine n_icmp_ne (tgt := 37) rfl rfl (by omega) (by omega) (fun h2 => ?_) (fun h2 => ?_)
        · refine n_iinc (lv' := [(3, .int (nI (g + 1))), (2, .int (nI (sm (fun g => if d 9 g = q then d 10 g else 0) g))), (0, .ref 34), (1, .int (nI q))]) 1 rfl rfl (Nat.le_of_ble_eq_true rfl) rfl ?_
          refine r_goto (tgt := 4) rfl rfl ?_
          have e : sm (fun g => if d 9 g = q then d 10 g else 0) (g + 1) = sm (fun g => if d 9 g = q then d 10 g else 0) g := by show sm (fun g => if d 9 g = q then d 10 g else 0) g + (if d 9 g = q then d 10 g else 0) = _; rw [if_neg h2, Nat.add_zero]
          rw [← e]
          refine r_lv (lv' := [(3, .int (nI (g + 1))), (2, .int (nI (sm (fun g => if d 9 g = q then d 10 g else 0) (g + 1)))), (0, .ref 34), (1, .int (nI q))]) [0, 1, 2, 3] rfl ?_
          exact ih (g + 1) (by omega) (by omega)
        · refine r_iload_n rfl rfl ?_
          refine r_aload_n rfl rfl ?_
          refine n_bipush 53 rfl (by decide) ?_
          refine r_iload_n rfl rfl ?_
          refine n_bipush 8 rfl (by decide) ?_
          refine s_virI [.int (nI 53), .int (nI g), .int (nI 8)] [.int (nI (sm (fun g => if d 9 g = q then d 10 g else 0) g))] rfl lkX8_21 rfl rfl rfl (c_cell_34 (v := nI (d 10 g)) (by omega) (by omega) (SRat hS 10 g (by omega) (sP10 (by omega)))) rfl rfl (Nat.le_refl _) (Nat.le_refl _) rfl (rI (e1 := nI (d 10 g)) rfl ?_)
          refine n_iadd rfl ?_
          refine r_istore_n (lv' := [(2, .int (nI ((sm (fun g => if d 9 g = q then d 10 g else 0) g) + (d 10 g)))), (3, .int (nI g)), (0, .ref 34), (1, .int (nI q))]) rfl rfl (Nat.le_of_ble_eq_true rfl) rfl ?_
          refine n_iinc (lv' := [(3, .int (nI (g + 1))), (2, .int (nI ((sm (fun g => if d 9 g = q then d 10 g else 0) g) + (d 10 g)))), (0, .ref 34), (1, .int (nI q))]) 1 rfl rfl (Nat.le_of_ble_eq_true rfl) rfl ?_
          refine r_goto (tgt := 4) rfl rfl ?_
          have e : sm (fun g => if d 9 g = q then d 10 g else 0) (g + 1) = sm (fun g => if d 9 g = q then d 10 g else 0) g + d 10 g := by show sm (fun g => if d 9 g = q then d 10 g else 0) g + (if d 9 g = q then d 10 g else 0) = _; rw [if_pos h2]
          rw [← e]
          refine r_lv (lv' := [(3, .int (nI (g + 1))), (2, .int (nI (sm (fun g => if d 9 g = q then d 10 g else 0) (g + 1)))), (0, .ref 34), (1, .int (nI q))]) [0, 1, 2, 3] rfl ?_
          exact ih (g + 1) (by omega) (by omega)
  exact loop (d 0 3 + 1) 0 (by omega) (by omega)

theorem c_putAge_10 {z : SZ} {sc : SC} {σ : SS} {d : D} {j v : Nat} (hS : SR (σ.1 11) d) (hj : j < 12) : Cs z sc mX8_putAge 0 0 [.ref 10, .int (nI j), .int (nI v)] σ (RV fun σ' => ∃ f, σ' = mz σ [(11, f)] [] ∧ SR f (up d 2 j v)) := by
  refine Cs.of gmX8_putAge (Nat.le_of_ble_eq_true rfl) ?_
  show Ws z sc mX8_putAge 0 0 0 0 0 [(0, .ref 10), (1, .int (nI j)), (2, .int (nI v))] [] (mz σ [] []) (RV fun σ' => ∃ f, σ' = mz σ [(11, f)] [] ∧ SR f (up d 2 j v))
  refine r_aload_n rfl rfl ?_
  refine n_iconst 0 rfl ?_
  refine r_iload_n rfl rfl ?_
  refine n_bipush 12 rfl (by decide) ?_
  refine r_iload_n rfl rfl ?_
  refine s_virV [.int (nI 0), .int (nI j), .int (nI 12), .int (nI v)] [] rfl lkX8_29 rfl rfl rfl (c_putCell_10 hj (by omega)) rfl rfl (Nat.le_refl _) (Nat.le_refl _) rfl (rV ?_)
  refine m_mz (L' := [(11, (aup (σ.1 11) (0 + j) (nI v)))]) (M' := []) rfl rfl ?_
  exact s_vret (st := []) rfl rfl (Nat.zero_le _) (Nat.zero_le _) (⟨rfl, _, rfl, SRup hS (by omega) (sP2 hj) rfl⟩)

theorem c_putDead_10 {z : SZ} {sc : SC} {σ : SS} {d : D} {j : Nat} (hS : SR (σ.1 11) d) (hj : j < 12) : Cs z sc mX8_putDead 0 0 [.ref 10, .int (nI j)] σ (RV fun σ' => ∃ f, σ' = mz σ [(11, f)] [] ∧ SR f (up d 3 j 1)) := by
  refine Cs.of gmX8_putDead (Nat.le_of_ble_eq_true rfl) ?_
  show Ws z sc mX8_putDead 0 0 0 0 0 [(0, .ref 10), (1, .int (nI j))] [] (mz σ [] []) (RV fun σ' => ∃ f, σ' = mz σ [(11, f)] [] ∧ SR f (up d 3 j 1))
  refine r_aload_n rfl rfl ?_
  refine n_bipush 12 rfl (by decide) ?_
  refine r_iload_n rfl rfl ?_
  refine n_bipush 12 rfl (by decide) ?_
  refine n_iconst 1 rfl ?_
  refine s_virV [.int (nI 12), .int (nI j), .int (nI 12), .int (nI 1)] [] rfl lkX8_29 rfl rfl rfl (c_putCell_10 hj (by omega)) rfl rfl (Nat.le_refl _) (Nat.le_refl _) rfl (rV ?_)
  refine m_mz (L' := [(11, (aup (σ.1 11) (12 + j) (nI 1)))]) (M' := []) rfl rfl ?_
  exact s_vret (st := []) rfl rfl (Nat.zero_le _) (Nat.zero_le _) (⟨rfl, _, rfl, SRup hS (by omega) (sP3 hj) rfl⟩)

theorem c_putAccrual_10 {z : SZ} {sc : SC} {σ : SS} {d : D} {b : Bool} (hS : SR (σ.1 11) d) : Cs z sc mX8_putAccrual 0 0 [.ref 10, .int (nI (tb b))] σ (RV fun σ' => ∃ f, σ' = mz σ [(11, f)] [] ∧ SR f (up d 0 9 (tb b))) := by
  refine Cs.of gmX8_putAccrual (Nat.le_of_ble_eq_true rfl) ?_
  show Ws z sc mX8_putAccrual 0 0 0 0 0 [(0, .ref 10), (1, .int (nI (tb b)))] [] (mz σ [] []) (RV fun σ' => ∃ f, σ' = mz σ [(11, f)] [] ∧ SR f (up d 0 9 (tb b)))
  refine r_aload_n rfl rfl ?_
  refine s_getR (r := 11) rfl flX8_11 rfl rfl ?_
  refine n_bipush 78 rfl (by decide) ?_
  refine r_iload_n rfl rfl ?_
  refine s_staNI [.int (nI (tb b))] [.int (nI 78), .ref 11] rfl lkX8_33 c_asInt rfl rfl (Nat.le_refl _) (Nat.le_refl _) (rI (e1 := nI (tb b)) rfl ?_)
  refine m_iast (L' := [(11, (aup (σ.1 11) 78 (nI (tb b))))]) rfl rfl (by decide) rfl ?_
  exact s_vret (st := []) rfl rfl (Nat.zero_le _) (Nat.zero_le _) (⟨rfl, _, rfl, SRup hS (by decide) (by decide) rfl⟩)

theorem c_putValue_10 {z : SZ} {sc : SC} {σ : SS} {d : D} {j v : Nat} (hS : SR (σ.1 11) d) (hj : j < 8) : Cs z sc mX8_putValue 0 0 [.ref 10, .int (nI j), .int (nI v)] σ (RV fun σ' => ∃ f, σ' = mz σ [(11, f)] [] ∧ SR f (up d 5 j v)) := by
  refine Cs.of gmX8_putValue (Nat.le_of_ble_eq_true rfl) ?_
  show Ws z sc mX8_putValue 0 0 0 0 0 [(0, .ref 10), (1, .int (nI j)), (2, .int (nI v))] [] (mz σ [] []) (RV fun σ' => ∃ f, σ' = mz σ [(11, f)] [] ∧ SR f (up d 5 j v))
  refine r_aload_n rfl rfl ?_
  refine n_bipush 36 rfl (by decide) ?_
  refine r_iload_n rfl rfl ?_
  refine n_bipush 8 rfl (by decide) ?_
  refine r_iload_n rfl rfl ?_
  refine s_virV [.int (nI 36), .int (nI j), .int (nI 8), .int (nI v)] [] rfl lkX8_29 rfl rfl rfl (c_putCell_10 hj (by omega)) rfl rfl (Nat.le_refl _) (Nat.le_refl _) rfl (rV ?_)
  refine m_mz (L' := [(11, (aup (σ.1 11) (36 + j) (nI v)))]) (M' := []) rfl rfl ?_
  exact s_vret (st := []) rfl rfl (Nat.zero_le _) (Nat.zero_le _) (⟨rfl, _, rfl, SRup hS (by omega) (sP5 hj) rfl⟩)

theorem c_putGift_10 {z : SZ} {sc : SC} {σ : SS} {d : D} {a v : Nat} (hS : SR (σ.1 11) d) (hn : d 0 3 < 8) : Cs z sc mX8_putGift 0 0 [.ref 10, .int (nI a), .int (nI v)] σ (RV fun σ' => ∃ f, σ' = mz σ [(11, f)] [] ∧ SR f (up (up (up d 9 (d 0 3) a) 10 (d 0 3) v) 0 3 (d 0 3 + 1))) := by
  refine Cs.of gmX8_putGift (Nat.le_of_ble_eq_true rfl) ?_
  show Ws z sc mX8_putGift 0 0 0 0 0 [(0, .ref 10), (1, .int (nI a)), (2, .int (nI v))] [] (mz σ [] []) (RV fun σ' => ∃ f, σ' = mz σ [(11, f)] [] ∧ SR f (up (up (up d 9 (d 0 3) a) 10 (d 0 3) v) 0 3 (d 0 3 + 1)))
  refine r_aload_n rfl rfl ?_
  refine s_virI [] [] rfl lkX8_25 rfl rfl rfl (c_giftCount_10 hS) rfl rfl (Nat.le_refl _) (Nat.le_refl _) rfl (rI (e1 := nI (d 0 3)) rfl ?_)
  refine r_istore_n (lv' := [(3, .int (nI (d 0 3))), (0, .ref 10), (1, .int (nI a)), (2, .int (nI v))]) rfl rfl (Nat.le_of_ble_eq_true rfl) rfl ?_
  refine r_iload_n rfl rfl ?_
  refine n_bipush 8 rfl (by decide) ?_
  refine n_icmp_ge (tgt := 41) rfl rfl (by omega) (by omega) (fun hq => absurd hq (by omega)) (fun _ => ?_)
  refine r_aload_n rfl rfl ?_
  refine n_bipush 45 rfl (by decide) ?_
  refine r_iload_n rfl rfl ?_
  refine n_bipush 8 rfl (by decide) ?_
  refine r_iload_n rfl rfl ?_
  refine s_virV [.int (nI 45), .int (nI (d 0 3)), .int (nI 8), .int (nI a)] [] rfl lkX8_29 rfl rfl rfl (c_putCell_10 hn (by omega)) rfl rfl (Nat.le_refl _) (Nat.le_refl _) rfl (rV ?_)
  refine m_mz (L' := [(11, (aup (σ.1 11) (45 + d 0 3) (nI a)))]) (M' := []) rfl rfl ?_
  refine r_aload_n rfl rfl ?_
  refine n_bipush 53 rfl (by decide) ?_
  refine r_iload_n rfl rfl ?_
  refine n_bipush 8 rfl (by decide) ?_
  refine r_iload_n rfl rfl ?_
  refine s_virV [.int (nI 53), .int (nI (d 0 3)), .int (nI 8), .int (nI v)] [] rfl lkX8_29 rfl rfl rfl (c_putCell_10 hn (by omega)) rfl rfl (Nat.le_refl _) (Nat.le_refl _) rfl (rV ?_)
  refine m_mz (L' := [(11, (aup (aup (σ.1 11) (45 + d 0 3) (nI a)) (53 + d 0 3) (nI v)))]) (M' := []) rfl rfl ?_
  refine r_aload_n rfl rfl ?_
  refine s_getR (r := 11) rfl flX8_11 rfl rfl ?_
  refine n_bipush 44 rfl (by decide) ?_
  refine r_iload_n rfl rfl ?_
  refine n_iconst 1 rfl ?_
  refine n_iadd rfl ?_
  refine m_iast (L' := [(11, (aup (aup (aup (σ.1 11) (45 + d 0 3) (nI a)) (53 + d 0 3) (nI v)) 44 (nI ((d 0 3) + 1))))]) rfl rfl (by decide) rfl ?_
  exact s_vret (st := []) rfl rfl (Nat.zero_le _) (Nat.zero_le _) (⟨rfl, _, rfl, SRup (SRup (SRup hS (by omega) (sP9 hn) rfl) (by omega) (sP10 hn) rfl) (by decide) (by decide) rfl⟩)

theorem c_putDebt_10 {z : SZ} {sc : SC} {σ : SS} {d : D} {a v : Nat} (hS : SR (σ.1 11) d) (hn : d 0 2 < 8) : Cs z sc mX8_putDebt 0 0 [.ref 10, .int (nI a), .int (nI v)] σ (RV fun σ' => ∃ f, σ' = mz σ [(11, f)] [] ∧ SR f (up (up (up d 7 (d 0 2) a) 8 (d 0 2) v) 0 2 (d 0 2 + 1))) := by
  refine Cs.of gmX8_putDebt (Nat.le_of_ble_eq_true rfl) ?_
  show Ws z sc mX8_putDebt 0 0 0 0 0 [(0, .ref 10), (1, .int (nI a)), (2, .int (nI v))] [] (mz σ [] []) (RV fun σ' => ∃ f, σ' = mz σ [(11, f)] [] ∧ SR f (up (up (up d 7 (d 0 2) a) 8 (d 0 2) v) 0 2 (d 0 2 + 1)))
  refine r_aload_n rfl rfl ?_
  refine s_virI [] [] rfl lkX8_37 rfl rfl rfl (c_debtCount_10 hS) rfl rfl (Nat.le_refl _) (Nat.le_refl _) rfl (rI (e1 := nI (d 0 2)) rfl ?_)
  refine r_istore_n (lv' := [(3, .int (nI (d 0 2))), (0, .ref 10), (1, .int (nI a)), (2, .int (nI v))]) rfl rfl (Nat.le_of_ble_eq_true rfl) rfl ?_
  refine r_iload_n rfl rfl ?_
  refine n_bipush 8 rfl (by decide) ?_
  refine n_icmp_ge (tgt := 41) rfl rfl (by omega) (by omega) (fun hq => absurd hq (by omega)) (fun _ => ?_)
  refine r_aload_n rfl rfl ?_
  refine n_bipush 62 rfl (by decide) ?_
  refine r_iload_n rfl rfl ?_
  refine n_bipush 8 rfl (by decide) ?_
  refine r_iload_n rfl rfl ?_
  refine s_virV [.int (nI 62), .int (nI (d 0 2)), .int (nI 8), .int (nI a)] [] rfl lkX8_29 rfl rfl rfl (c_putCell_10 hn (by omega)) rfl rfl (Nat.le_refl _) (Nat.le_refl _) rfl (rV ?_)
  refine m_mz (L' := [(11, (aup (σ.1 11) (62 + d 0 2) (nI a)))]) (M' := []) rfl rfl ?_
  refine r_aload_n rfl rfl ?_
  refine n_bipush 70 rfl (by decide) ?_
  refine r_iload_n rfl rfl ?_
  refine n_bipush 8 rfl (by decide) ?_
  refine r_iload_n rfl rfl ?_
  refine s_virV [.int (nI 70), .int (nI (d 0 2)), .int (nI 8), .int (nI v)] [] rfl lkX8_29 rfl rfl rfl (c_putCell_10 hn (by omega)) rfl rfl (Nat.le_refl _) (Nat.le_refl _) rfl (rV ?_)
  refine m_mz (L' := [(11, (aup (aup (σ.1 11) (62 + d 0 2) (nI a)) (70 + d 0 2) (nI v)))]) (M' := []) rfl rfl ?_
  refine r_aload_n rfl rfl ?_
  refine s_getR (r := 11) rfl flX8_11 rfl rfl ?_
  refine n_bipush 61 rfl (by decide) ?_
  refine r_iload_n rfl rfl ?_
  refine n_iconst 1 rfl ?_
  refine n_iadd rfl ?_
  refine m_iast (L' := [(11, (aup (aup (aup (σ.1 11) (62 + d 0 2) (nI a)) (70 + d 0 2) (nI v)) 61 (nI ((d 0 2) + 1))))]) rfl rfl (by decide) rfl ?_
  exact s_vret (st := []) rfl rfl (Nat.zero_le _) (Nat.zero_le _) (⟨rfl, _, rfl, SRup (SRup (SRup hS (by omega) (sP7 hn) rfl) (by omega) (sP8 hn) rfl) (by decide) (by decide) rfl⟩)

theorem c_putAge_18 {z : SZ} {sc : SC} {σ : SS} {d : D} {j v : Nat} (hS : SR (σ.1 19) d) (hj : j < 12) : Cs z sc mX8_putAge 0 0 [.ref 18, .int (nI j), .int (nI v)] σ (RV fun σ' => ∃ f, σ' = mz σ [(19, f)] [] ∧ SR f (up d 2 j v)) := by
  refine Cs.of gmX8_putAge (Nat.le_of_ble_eq_true rfl) ?_
  show Ws z sc mX8_putAge 0 0 0 0 0 [(0, .ref 18), (1, .int (nI j)), (2, .int (nI v))] [] (mz σ [] []) (RV fun σ' => ∃ f, σ' = mz σ [(19, f)] [] ∧ SR f (up d 2 j v))
  refine r_aload_n rfl rfl ?_
  refine n_iconst 0 rfl ?_
  refine r_iload_n rfl rfl ?_
  refine n_bipush 12 rfl (by decide) ?_
  refine r_iload_n rfl rfl ?_
  refine s_virV [.int (nI 0), .int (nI j), .int (nI 12), .int (nI v)] [] rfl lkX8_29 rfl rfl rfl (c_putCell_18 hj (by omega)) rfl rfl (Nat.le_refl _) (Nat.le_refl _) rfl (rV ?_)
  refine m_mz (L' := [(19, (aup (σ.1 19) (0 + j) (nI v)))]) (M' := []) rfl rfl ?_
  exact s_vret (st := []) rfl rfl (Nat.zero_le _) (Nat.zero_le _) (⟨rfl, _, rfl, SRup hS (by omega) (sP2 hj) rfl⟩)

theorem c_putDead_18 {z : SZ} {sc : SC} {σ : SS} {d : D} {j : Nat} (hS : SR (σ.1 19) d) (hj : j < 12) : Cs z sc mX8_putDead 0 0 [.ref 18, .int (nI j)] σ (RV fun σ' => ∃ f, σ' = mz σ [(19, f)] [] ∧ SR f (up d 3 j 1)) := by
  refine Cs.of gmX8_putDead (Nat.le_of_ble_eq_true rfl) ?_
  show Ws z sc mX8_putDead 0 0 0 0 0 [(0, .ref 18), (1, .int (nI j))] [] (mz σ [] []) (RV fun σ' => ∃ f, σ' = mz σ [(19, f)] [] ∧ SR f (up d 3 j 1))
  refine r_aload_n rfl rfl ?_
  refine n_bipush 12 rfl (by decide) ?_
  refine r_iload_n rfl rfl ?_
  refine n_bipush 12 rfl (by decide) ?_
  refine n_iconst 1 rfl ?_
  refine s_virV [.int (nI 12), .int (nI j), .int (nI 12), .int (nI 1)] [] rfl lkX8_29 rfl rfl rfl (c_putCell_18 hj (by omega)) rfl rfl (Nat.le_refl _) (Nat.le_refl _) rfl (rV ?_)
  refine m_mz (L' := [(19, (aup (σ.1 19) (12 + j) (nI 1)))]) (M' := []) rfl rfl ?_
  exact s_vret (st := []) rfl rfl (Nat.zero_le _) (Nat.zero_le _) (⟨rfl, _, rfl, SRup hS (by omega) (sP3 hj) rfl⟩)

theorem c_putAccrual_18 {z : SZ} {sc : SC} {σ : SS} {d : D} {b : Bool} (hS : SR (σ.1 19) d) : Cs z sc mX8_putAccrual 0 0 [.ref 18, .int (nI (tb b))] σ (RV fun σ' => ∃ f, σ' = mz σ [(19, f)] [] ∧ SR f (up d 0 9 (tb b))) := by
  refine Cs.of gmX8_putAccrual (Nat.le_of_ble_eq_true rfl) ?_
  show Ws z sc mX8_putAccrual 0 0 0 0 0 [(0, .ref 18), (1, .int (nI (tb b)))] [] (mz σ [] []) (RV fun σ' => ∃ f, σ' = mz σ [(19, f)] [] ∧ SR f (up d 0 9 (tb b)))
  refine r_aload_n rfl rfl ?_
  refine s_getR (r := 19) rfl flX8_11 rfl rfl ?_
  refine n_bipush 78 rfl (by decide) ?_
  refine r_iload_n rfl rfl ?_
  refine s_staNI [.int (nI (tb b))] [.int (nI 78), .ref 19] rfl lkX8_33 c_asInt rfl rfl (Nat.le_refl _) (Nat.le_refl _) (rI (e1 := nI (tb b)) rfl ?_)
  refine m_iast (L' := [(19, (aup (σ.1 19) 78 (nI (tb b))))]) rfl rfl (by decide) rfl ?_
  exact s_vret (st := []) rfl rfl (Nat.zero_le _) (Nat.zero_le _) (⟨rfl, _, rfl, SRup hS (by decide) (by decide) rfl⟩)

theorem c_putValue_18 {z : SZ} {sc : SC} {σ : SS} {d : D} {j v : Nat} (hS : SR (σ.1 19) d) (hj : j < 8) : Cs z sc mX8_putValue 0 0 [.ref 18, .int (nI j), .int (nI v)] σ (RV fun σ' => ∃ f, σ' = mz σ [(19, f)] [] ∧ SR f (up d 5 j v)) := by
  refine Cs.of gmX8_putValue (Nat.le_of_ble_eq_true rfl) ?_
  show Ws z sc mX8_putValue 0 0 0 0 0 [(0, .ref 18), (1, .int (nI j)), (2, .int (nI v))] [] (mz σ [] []) (RV fun σ' => ∃ f, σ' = mz σ [(19, f)] [] ∧ SR f (up d 5 j v))
  refine r_aload_n rfl rfl ?_
  refine n_bipush 36 rfl (by decide) ?_
  refine r_iload_n rfl rfl ?_
  refine n_bipush 8 rfl (by decide) ?_
  refine r_iload_n rfl rfl ?_
  refine s_virV [.int (nI 36), .int (nI j), .int (nI 8), .int (nI v)] [] rfl lkX8_29 rfl rfl rfl (c_putCell_18 hj (by omega)) rfl rfl (Nat.le_refl _) (Nat.le_refl _) rfl (rV ?_)
  refine m_mz (L' := [(19, (aup (σ.1 19) (36 + j) (nI v)))]) (M' := []) rfl rfl ?_
  exact s_vret (st := []) rfl rfl (Nat.zero_le _) (Nat.zero_le _) (⟨rfl, _, rfl, SRup hS (by omega) (sP5 hj) rfl⟩)

theorem c_putGift_18 {z : SZ} {sc : SC} {σ : SS} {d : D} {a v : Nat} (hS : SR (σ.1 19) d) (hn : d 0 3 < 8) : Cs z sc mX8_putGift 0 0 [.ref 18, .int (nI a), .int (nI v)] σ (RV fun σ' => ∃ f, σ' = mz σ [(19, f)] [] ∧ SR f (up (up (up d 9 (d 0 3) a) 10 (d 0 3) v) 0 3 (d 0 3 + 1))) := by
  refine Cs.of gmX8_putGift (Nat.le_of_ble_eq_true rfl) ?_
  show Ws z sc mX8_putGift 0 0 0 0 0 [(0, .ref 18), (1, .int (nI a)), (2, .int (nI v))] [] (mz σ [] []) (RV fun σ' => ∃ f, σ' = mz σ [(19, f)] [] ∧ SR f (up (up (up d 9 (d 0 3) a) 10 (d 0 3) v) 0 3 (d 0 3 + 1)))
  refine r_aload_n rfl rfl ?_
  refine s_virI [] [] rfl lkX8_25 rfl rfl rfl (c_giftCount_18 hS) rfl rfl (Nat.le_refl _) (Nat.le_refl _) rfl (rI (e1 := nI (d 0 3)) rfl ?_)
  refine r_istore_n (lv' := [(3, .int (nI (d 0 3))), (0, .ref 18), (1, .int (nI a)), (2, .int (nI v))]) rfl rfl (Nat.le_of_ble_eq_true rfl) rfl ?_
  refine r_iload_n rfl rfl ?_
  refine n_bipush 8 rfl (by decide) ?_
  refine n_icmp_ge (tgt := 41) rfl rfl (by omega) (by omega) (fun hq => absurd hq (by omega)) (fun _ => ?_)
  refine r_aload_n rfl rfl ?_
  refine n_bipush 45 rfl (by decide) ?_
  refine r_iload_n rfl rfl ?_
  refine n_bipush 8 rfl (by decide) ?_
  refine r_iload_n rfl rfl ?_
  refine s_virV [.int (nI 45), .int (nI (d 0 3)), .int (nI 8), .int (nI a)] [] rfl lkX8_29 rfl rfl rfl (c_putCell_18 hn (by omega)) rfl rfl (Nat.le_refl _) (Nat.le_refl _) rfl (rV ?_)
  refine m_mz (L' := [(19, (aup (σ.1 19) (45 + d 0 3) (nI a)))]) (M' := []) rfl rfl ?_
  refine r_aload_n rfl rfl ?_
  refine n_bipush 53 rfl (by decide) ?_
  refine r_iload_n rfl rfl ?_
  refine n_bipush 8 rfl (by decide) ?_
  refine r_iload_n rfl rfl ?_
  refine s_virV [.int (nI 53), .int (nI (d 0 3)), .int (nI 8), .int (nI v)] [] rfl lkX8_29 rfl rfl rfl (c_putCell_18 hn (by omega)) rfl rfl (Nat.le_refl _) (Nat.le_refl _) rfl (rV ?_)
  refine m_mz (L' := [(19, (aup (aup (σ.1 19) (45 + d 0 3) (nI a)) (53 + d 0 3) (nI v)))]) (M' := []) rfl rfl ?_
  refine r_aload_n rfl rfl ?_
  refine s_getR (r := 19) rfl flX8_11 rfl rfl ?_
  refine n_bipush 44 rfl (by decide) ?_
  refine r_iload_n rfl rfl ?_
  refine n_iconst 1 rfl ?_
  refine n_iadd rfl ?_
  refine m_iast (L' := [(19, (aup (aup (aup (σ.1 19) (45 + d 0 3) (nI a)) (53 + d 0 3) (nI v)) 44 (nI ((d 0 3) + 1))))]) rfl rfl (by decide) rfl ?_
  exact s_vret (st := []) rfl rfl (Nat.zero_le _) (Nat.zero_le _) (⟨rfl, _, rfl, SRup (SRup (SRup hS (by omega) (sP9 hn) rfl) (by omega) (sP10 hn) rfl) (by decide) (by decide) rfl⟩)

theorem c_putDebt_18 {z : SZ} {sc : SC} {σ : SS} {d : D} {a v : Nat} (hS : SR (σ.1 19) d) (hn : d 0 2 < 8) : Cs z sc mX8_putDebt 0 0 [.ref 18, .int (nI a), .int (nI v)] σ (RV fun σ' => ∃ f, σ' = mz σ [(19, f)] [] ∧ SR f (up (up (up d 7 (d 0 2) a) 8 (d 0 2) v) 0 2 (d 0 2 + 1))) := by
  refine Cs.of gmX8_putDebt (Nat.le_of_ble_eq_true rfl) ?_
  show Ws z sc mX8_putDebt 0 0 0 0 0 [(0, .ref 18), (1, .int (nI a)), (2, .int (nI v))] [] (mz σ [] []) (RV fun σ' => ∃ f, σ' = mz σ [(19, f)] [] ∧ SR f (up (up (up d 7 (d 0 2) a) 8 (d 0 2) v) 0 2 (d 0 2 + 1)))
  refine r_aload_n rfl rfl ?_
  refine s_virI [] [] rfl lkX8_37 rfl rfl rfl (c_debtCount_18 hS) rfl rfl (Nat.le_refl _) (Nat.le_refl _) rfl (rI (e1 := nI (d 0 2)) rfl ?_)
  refine r_istore_n (lv' := [(3, .int (nI (d 0 2))), (0, .ref 18), (1, .int (nI a)), (2, .int (nI v))]) rfl rfl (Nat.le_of_ble_eq_true rfl) rfl ?_
  refine r_iload_n rfl rfl ?_
  refine n_bipush 8 rfl (by decide) ?_
  refine n_icmp_ge (tgt := 41) rfl rfl (by omega) (by omega) (fun hq => absurd hq (by omega)) (fun _ => ?_)
  refine r_aload_n rfl rfl ?_
  refine n_bipush 62 rfl (by decide) ?_
  refine r_iload_n rfl rfl ?_
  refine n_bipush 8 rfl (by decide) ?_
  refine r_iload_n rfl rfl ?_
  refine s_virV [.int (nI 62), .int (nI (d 0 2)), .int (nI 8), .int (nI a)] [] rfl lkX8_29 rfl rfl rfl (c_putCell_18 hn (by omega)) rfl rfl (Nat.le_refl _) (Nat.le_refl _) rfl (rV ?_)
  refine m_mz (L' := [(19, (aup (σ.1 19) (62 + d 0 2) (nI a)))]) (M' := []) rfl rfl ?_
  refine r_aload_n rfl rfl ?_
  refine n_bipush 70 rfl (by decide) ?_
  refine r_iload_n rfl rfl ?_
  refine n_bipush 8 rfl (by decide) ?_
  refine r_iload_n rfl rfl ?_
  refine s_virV [.int (nI 70), .int (nI (d 0 2)), .int (nI 8), .int (nI v)] [] rfl lkX8_29 rfl rfl rfl (c_putCell_18 hn (by omega)) rfl rfl (Nat.le_refl _) (Nat.le_refl _) rfl (rV ?_)
  refine m_mz (L' := [(19, (aup (aup (σ.1 19) (62 + d 0 2) (nI a)) (70 + d 0 2) (nI v)))]) (M' := []) rfl rfl ?_
  refine r_aload_n rfl rfl ?_
  refine s_getR (r := 19) rfl flX8_11 rfl rfl ?_
  refine n_bipush 61 rfl (by decide) ?_
  refine r_iload_n rfl rfl ?_
  refine n_iconst 1 rfl ?_
  refine n_iadd rfl ?_
  refine m_iast (L' := [(19, (aup (aup (aup (σ.1 19) (62 + d 0 2) (nI a)) (70 + d 0 2) (nI v)) 61 (nI ((d 0 2) + 1))))]) rfl rfl (by decide) rfl ?_
  exact s_vret (st := []) rfl rfl (Nat.zero_le _) (Nat.zero_le _) (⟨rfl, _, rfl, SRup (SRup (SRup hS (by omega) (sP7 hn) rfl) (by omega) (sP8 hn) rfl) (by decide) (by decide) rfl⟩)

theorem c_putRefusing_18 {z : SZ} {sc : SC} {σ : SS} {d : D} {j : Nat} {b : Bool} (hS : SR (σ.1 19) d) (hj : j < 12) : Cs z sc mX8_putRefusing 0 0 [.ref 18, .int (nI j), .int (nI (tb b))] σ (RV fun σ' => ∃ f, σ' = mz σ [(19, f)] [] ∧ SR f (up d 4 j (tb b))) := by
  refine Cs.of gmX8_putRefusing (Nat.le_of_ble_eq_true rfl) ?_
  show Ws z sc mX8_putRefusing 0 0 0 0 0 [(0, .ref 18), (1, .int (nI j)), (2, .int (nI (tb b)))] [] (mz σ [] []) (RV fun σ' => ∃ f, σ' = mz σ [(19, f)] [] ∧ SR f (up d 4 j (tb b)))
  refine r_aload_n rfl rfl ?_
  refine n_bipush 24 rfl (by decide) ?_
  refine r_iload_n rfl rfl ?_
  refine n_bipush 12 rfl (by decide) ?_
  refine r_iload_n rfl rfl ?_
  refine s_staNI [.int (nI (tb b))] [.int (nI 12), .int (nI j), .int (nI 24), .ref 18] rfl lkX8_33 c_asInt rfl rfl (Nat.le_refl _) (Nat.le_refl _) (rI (e1 := nI (tb b)) rfl ?_)
  refine s_virV [.int (nI 24), .int (nI j), .int (nI 12), .int (nI (tb b))] [] rfl lkX8_29 rfl rfl rfl (c_putCell_18 hj (by omega)) rfl rfl (Nat.le_refl _) (Nat.le_refl _) rfl (rV ?_)
  refine m_mz (L' := [(19, (aup (σ.1 19) (24 + j) (nI (tb b))))]) (M' := []) rfl rfl ?_
  exact s_vret (st := []) rfl rfl (Nat.zero_le _) (Nat.zero_le _) (⟨rfl, _, rfl, SRup hS (by omega) (sP4 hj) rfl⟩)

theorem c_putRefusing_34 {z : SZ} {sc : SC} {σ : SS} {d : D} {j : Nat} {b : Bool} (hS : SR (σ.1 35) d) (hj : j < 12) : Cs z sc mX8_putRefusing 0 0 [.ref 34, .int (nI j), .int (nI (tb b))] σ (RV fun σ' => ∃ f, σ' = mz σ [(35, f)] [] ∧ SR f (up d 4 j (tb b))) := by
  refine Cs.of gmX8_putRefusing (Nat.le_of_ble_eq_true rfl) ?_
  show Ws z sc mX8_putRefusing 0 0 0 0 0 [(0, .ref 34), (1, .int (nI j)), (2, .int (nI (tb b)))] [] (mz σ [] []) (RV fun σ' => ∃ f, σ' = mz σ [(35, f)] [] ∧ SR f (up d 4 j (tb b)))
  refine r_aload_n rfl rfl ?_
  refine n_bipush 24 rfl (by decide) ?_
  refine r_iload_n rfl rfl ?_
  refine n_bipush 12 rfl (by decide) ?_
  refine r_iload_n rfl rfl ?_
  refine s_staNI [.int (nI (tb b))] [.int (nI 12), .int (nI j), .int (nI 24), .ref 34] rfl lkX8_33 c_asInt rfl rfl (Nat.le_refl _) (Nat.le_refl _) (rI (e1 := nI (tb b)) rfl ?_)
  refine s_virV [.int (nI 24), .int (nI j), .int (nI 12), .int (nI (tb b))] [] rfl lkX8_29 rfl rfl rfl (c_putCell_34 hj (by omega)) rfl rfl (Nat.le_refl _) (Nat.le_refl _) rfl (rV ?_)
  refine m_mz (L' := [(35, (aup (σ.1 35) (24 + j) (nI (tb b))))]) (M' := []) rfl rfl ?_
  exact s_vret (st := []) rfl rfl (Nat.zero_le _) (Nat.zero_le _) (⟨rfl, _, rfl, SRup hS (by omega) (sP4 hj) rfl⟩)

theorem c_clear_10 {z : SZ} {sc : SC} {σ : SS}  : Cs z sc mX8_clear 0 0 [.ref 10] σ (RV fun σ' => ∃ f, σ' = mz σ [(11, f)] [] ∧ SR f dE) := by
  refine Cs.of gmX8_clear (Nat.le_of_ble_eq_true rfl) ?_
  show Ws z sc mX8_clear 0 0 0 0 0 [(0, .ref 10)] [] (mz σ [] []) (RV fun σ' => ∃ f, σ' = mz σ [(11, f)] [] ∧ SR f dE)
  refine n_iconst 0 rfl ?_
  refine r_istore_n (lv' := [(1, .int (nI 0)), (0, .ref 10)]) rfl rfl (Nat.le_of_ble_eq_true rfl) rfl ?_
  refine r_lv (lv' := [(1, .int (nI 0)), (0, .ref 10)]) [0, 1] rfl ?_
  refine m_newI (L' := [(11, (σ.1 11))]) 11 rfl ?_
  have loop : ∀ (m9 : Nat) (i : Nat) (f : Nat → Int32), 79 - i < m9 → (i ≤ 79) → (∀ j, j < i → f j = nI 0) → Ws z sc mX8_clear 0 0 0 0 2 [(1, .int (nI i)), (0, .ref 10)] [] (mz σ [(11, f)] []) (RV fun σ' => ∃ f, σ' = mz σ [(11, f)] [] ∧ SR f dE) := by
    intro m9
    induction m9 with
    | zero => intro i f hme; exact absurd hme (Nat.not_lt_zero _)
    | succ m9 ih =>
      intro i f hme hi hf
      refine r_iload_n rfl rfl ?_
      refine r_aload_n rfl rfl ?_
      refine s_getR (r := 11) rfl flX8_11 rfl rfl ?_
      refine s_alen rfl rfl ?_
      refine n_icmp_ge (tgt := 24) rfl rfl (by omega) (by omega) (fun h1 => ?_) (fun h1 => ?_)
      · refine r_aload_n rfl rfl ?_
        refine s_getR (r := 11) rfl flX8_11 rfl rfl ?_
        refine n_bipush 78 rfl (by decide) ?_
        refine n_iconst 1 rfl ?_
        refine m_iast (L' := [(11, (aup f 78 (nI 1)))]) rfl rfl (by decide) rfl ?_
        exact s_vret (st := []) rfl rfl (Nat.zero_le _) (Nat.zero_le _) (⟨rfl, _, rfl, SRclear (fun j hj => hf j (by omega))⟩)
      · refine r_aload_n rfl rfl ?_
        refine s_getR (r := 11) rfl flX8_11 rfl rfl ?_
        refine r_iload_n rfl rfl ?_
        refine n_iconst 0 rfl ?_
        refine m_iast (L' := [(11, (aup f i (nI 0)))]) rfl rfl (by omega) rfl ?_
        refine n_iinc (lv' := [(1, .int (nI (i + 1))), (0, .ref 10)]) 1 rfl rfl (Nat.le_of_ble_eq_true rfl) rfl ?_
        refine r_goto (tgt := 2) rfl rfl ?_
        refine r_lv (lv' := [(1, .int (nI (i + 1))), (0, .ref 10)]) [0, 1] rfl ?_
        exact ih (i + 1) _ (by omega) (by omega) (aup_lt hf rfl)
  exact loop 80 0 _ (by omega) (by omega) (fun j hj => absurd hj (Nat.not_lt_zero _))

theorem c_copyS_18 {z : SZ} {sc : SC} {σ : SS}  : Cs z sc mX8_copy 0 0 [.ref 18, .ref 10] σ (PV (mz σ [(19, va_cpy (σ.1 11) (σ.1 19) 0 0 79)] [])) := by
  refine Cs.of gmX8_copy (Nat.le_of_ble_eq_true rfl) ?_
  show Ws z sc mX8_copy 0 0 0 0 0 [(0, .ref 18), (1, .ref 10)] [] (mz σ [] []) (PV (mz σ [(19, va_cpy (σ.1 11) (σ.1 19) 0 0 79)] []))
  refine r_aload_n rfl rfl ?_
  refine s_getR (r := 11) rfl flX8_11 rfl rfl ?_
  refine n_iconst 0 rfl ?_
  refine r_aload_n rfl rfl ?_
  refine s_getR (r := 19) rfl flX8_11 rfl rfl ?_
  refine n_iconst 0 rfl ?_
  refine n_bipush 79 rfl (by decide) ?_
  refine m_cpyi (L' := [(19, (va_cpy (σ.1 11) (σ.1 19) 0 0 79))]) rfl syX8_15 rfl rfl (by omega) (by omega) rfl rfl rfl ?_
  exact s_vret (st := []) rfl rfl (Nat.zero_le _) (Nat.zero_le _) (pV rfl)

theorem c_copyS_34 {z : SZ} {sc : SC} {σ : SS}  : Cs z sc mX8_copy 0 0 [.ref 34, .ref 18] σ (PV (mz σ [(35, va_cpy (σ.1 19) (σ.1 35) 0 0 79)] [])) := by
  refine Cs.of gmX8_copy (Nat.le_of_ble_eq_true rfl) ?_
  show Ws z sc mX8_copy 0 0 0 0 0 [(0, .ref 34), (1, .ref 18)] [] (mz σ [] []) (PV (mz σ [(35, va_cpy (σ.1 19) (σ.1 35) 0 0 79)] []))
  refine r_aload_n rfl rfl ?_
  refine s_getR (r := 19) rfl flX8_11 rfl rfl ?_
  refine n_iconst 0 rfl ?_
  refine r_aload_n rfl rfl ?_
  refine s_getR (r := 35) rfl flX8_11 rfl rfl ?_
  refine n_iconst 0 rfl ?_
  refine n_bipush 79 rfl (by decide) ?_
  refine m_cpyi (L' := [(35, (va_cpy (σ.1 19) (σ.1 35) 0 0 79))]) rfl syX8_15 rfl rfl (by omega) (by omega) rfl rfl rfl ?_
  exact s_vret (st := []) rfl rfl (Nat.zero_le _) (Nat.zero_le _) (pV rfl)

theorem c_writeTo_51 {z : SZ} {sc : SC} {σ : SS} {q : Nat} (hq : q < 10) : Cs z sc mX8_writeTo 0 0 [.ref 18, .ref 51, .int (nI q)] σ (PV (mz σ [(51, va_cpy (σ.1 19) (σ.1 51) 0 (q * 79) 79)] [])) := by
  refine Cs.of gmX8_writeTo (Nat.le_of_ble_eq_true rfl) ?_
  show Ws z sc mX8_writeTo 0 0 0 0 0 [(0, .ref 18), (1, .ref 51), (2, .int (nI q))] [] (mz σ [] []) (PV (mz σ [(51, va_cpy (σ.1 19) (σ.1 51) 0 (q * 79) 79)] []))
  refine r_iload_n rfl rfl ?_
  refine n_if_lt (tgt := 28) rfl rfl (by omega) (fun hq => hq.elim) (fun _ => ?_)
  refine r_iload_n rfl rfl ?_
  refine r_aload_n rfl rfl ?_
  refine s_alen rfl rfl ?_
  refine n_bipush 79 rfl (by decide) ?_
  refine n_idiv rfl (by omega) (by omega) (by omega) ?_
  refine n_icmp_ge (tgt := 28) rfl rfl (by omega) (by omega) (fun hq => absurd hq (by omega)) (fun _ => ?_)
  refine r_aload_n rfl rfl ?_
  refine s_getR (r := 19) rfl flX8_11 rfl rfl ?_
  refine n_iconst 0 rfl ?_
  refine r_aload_n rfl rfl ?_
  refine r_iload_n rfl rfl ?_
  refine n_bipush 79 rfl (by decide) ?_
  refine n_imul rfl ?_
  refine n_bipush 79 rfl (by decide) ?_
  refine m_cpyi (L' := [(51, (va_cpy (σ.1 19) (σ.1 51) 0 (q * 79) 79))]) rfl syX8_15 rfl rfl (by omega) (by omega) rfl rfl rfl ?_
  exact s_vret (st := []) rfl rfl (Nat.zero_le _) (Nat.zero_le _) (pV rfl)

theorem c_writeTo_52 {z : SZ} {sc : SC} {σ : SS} {q : Nat} (hq : q < 2) : Cs z sc mX8_writeTo 0 0 [.ref 18, .ref 52, .int (nI q)] σ (PV (mz σ [(52, va_cpy (σ.1 19) (σ.1 52) 0 (q * 79) 79)] [])) := by
  refine Cs.of gmX8_writeTo (Nat.le_of_ble_eq_true rfl) ?_
  show Ws z sc mX8_writeTo 0 0 0 0 0 [(0, .ref 18), (1, .ref 52), (2, .int (nI q))] [] (mz σ [] []) (PV (mz σ [(52, va_cpy (σ.1 19) (σ.1 52) 0 (q * 79) 79)] []))
  refine r_iload_n rfl rfl ?_
  refine n_if_lt (tgt := 28) rfl rfl (by omega) (fun hq => hq.elim) (fun _ => ?_)
  refine r_iload_n rfl rfl ?_
  refine r_aload_n rfl rfl ?_
  refine s_alen rfl rfl ?_
  refine n_bipush 79 rfl (by decide) ?_
  refine n_idiv rfl (by omega) (by omega) (by omega) ?_
  refine n_icmp_ge (tgt := 28) rfl rfl (by omega) (by omega) (fun hq => absurd hq (by omega)) (fun _ => ?_)
  refine r_aload_n rfl rfl ?_
  refine s_getR (r := 19) rfl flX8_11 rfl rfl ?_
  refine n_iconst 0 rfl ?_
  refine r_aload_n rfl rfl ?_
  refine r_iload_n rfl rfl ?_
  refine n_bipush 79 rfl (by decide) ?_
  refine n_imul rfl ?_
  refine n_bipush 79 rfl (by decide) ?_
  refine m_cpyi (L' := [(52, (va_cpy (σ.1 19) (σ.1 52) 0 (q * 79) 79))]) rfl syX8_15 rfl rfl (by omega) (by omega) rfl rfl rfl ?_
  exact s_vret (st := []) rfl rfl (Nat.zero_le _) (Nat.zero_le _) (pV rfl)

