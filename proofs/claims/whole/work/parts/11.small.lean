/-- an answer that is told, and a state that is told -/
def PI (e : Int32) (σ1 : SS) : Out → SS → Prop := RI (fun v σ' => v = e ∧ σ' = σ1)
def PL (e : Int64) (σ1 : SS) : Out → SS → Prop := RL9 (fun v σ' => v = e ∧ σ' = σ1)
def PV (σ1 : SS) : Out → SS → Prop := RV (fun σ' => σ' = σ1)
theorem rI {sc : SC} {μ : MI} {mc ms k n pc : Nat} {lv : List (Nat × Value)} {rest : List Value} {σ1 : SS} {Q : Out → SS → Prop} {e : Int32} (h : Ws sc μ mc ms k n pc lv (.int e :: rest) σ1 Q) : ∀ v σ', (v = e ∧ σ' = σ1) → Ws sc μ mc ms k n pc lv (.int v :: rest) σ' Q := by
  rintro v σ' ⟨rfl, rfl⟩
  exact h
theorem rL {sc : SC} {μ : MI} {mc ms k n pc : Nat} {lv : List (Nat × Value)} {rest : List Value} {σ1 : SS} {Q : Out → SS → Prop} {e : Int64} (h : Ws sc μ mc ms k n pc lv (.long e :: rest) σ1 Q) : ∀ v σ', (v = e ∧ σ' = σ1) → Ws sc μ mc ms k n pc lv (.long v :: rest) σ' Q := by
  rintro v σ' ⟨rfl, rfl⟩
  exact h
theorem rV {sc : SC} {μ : MI} {mc ms k n pc : Nat} {lv : List (Nat × Value)} {rest : List Value} {σ1 : SS} {Q : Out → SS → Prop} (h : Ws sc μ mc ms k n pc lv rest σ1 Q) : ∀ σ', σ' = σ1 → Ws sc μ mc ms k n pc lv rest σ' Q := by
  rintro σ' rfl
  exact h
theorem pI {e v : Int32} {σ1 : SS} (h : v = e) : PI e σ1 (.inl (some (.int v))) σ1 := ⟨v, rfl, h, rfl⟩
theorem pV {σ1 σ2 : SS} (h : σ2 = σ1) : PV σ1 (.inl none) σ2 := ⟨rfl, h⟩
theorem c_cell_10 (sc : SC) (σ : SS) (a j q : Nat) (hj : j < q) (hq : a + q ≤ 79) : Cs sc mX8_cell 0 0 [.ref 10, .int (nI a), .int (nI j), .int (nI q)] σ (PI (σ.1 11 (a + j)) σ) := by
  refine Cs.of gmX8_cell (Nat.le_of_ble_eq_true rfl) ?_
  show Ws sc mX8_cell 0 0 0 0 0 [(0, .ref 10), (1, .int (nI a)), (2, .int (nI j)), (3, .int (nI q))] [] σ (PI (σ.1 11 (a + j)) σ)
  refine r_iload_n rfl rfl ?_
  refine r_iload_n rfl rfl ?_
  refine n_iadd rfl ?_
  refine r_istore (lv' := [(4, .int (nI (a + j))), (0, .ref 10), (1, .int (nI a)), (2, .int (nI j)), (3, .int (nI q))]) rfl (Nat.le_of_ble_eq_true rfl) rfl ?_
  refine r_iload_n rfl rfl ?_
  refine n_if_lt (tgt := 33) rfl rfl (by omega) (fun hq => absurd hq (by omega)) (fun _ => ?_)
  refine r_iload_n rfl rfl ?_
  refine r_iload_n rfl rfl ?_
  refine n_icmp_ge (tgt := 33) rfl rfl (by omega) (by omega) (fun hq => absurd hq (by omega)) (fun _ => ?_)
  refine r_iload rfl rfl ?_
  refine n_if_lt (tgt := 33) rfl rfl (by omega) (fun hq => absurd hq (by omega)) (fun _ => ?_)
  refine r_iload rfl rfl ?_
  refine r_aload_n rfl rfl ?_
  refine s_getR (r := 11) rfl flX8_11 rfl rfl ?_
  refine s_alen rfl rfl ?_
  refine n_icmp_ge (tgt := 33) rfl rfl (by omega) (by omega) (fun hq => absurd hq (by omega)) (fun _ => ?_)
  refine n_iconst 1 rfl ?_
  refine r_goto (tgt := 34) rfl rfl ?_
  refine r_istore (lv' := [(5, .int (nI 1)), (4, .int (nI (a + j))), (0, .ref 10), (1, .int (nI a)), (2, .int (nI j)), (3, .int (nI q))]) rfl (Nat.le_of_ble_eq_true rfl) rfl ?_
  refine r_iload rfl rfl ?_
  refine n_if_eq (tgt := 51) rfl rfl (by omega) (fun hq => absurd hq (by omega)) (fun _ => ?_)
  refine r_aload_n rfl rfl ?_
  refine s_getR (r := 11) rfl flX8_11 rfl rfl ?_
  refine r_iload rfl rfl ?_
  refine s_iald rfl rfl (by omega) rfl ?_
  refine r_goto (tgt := 52) rfl rfl ?_
  exact s_ret rfl rfl rfl (Nat.zero_le _) (Nat.zero_le _) (pI rfl)

theorem c_cell_18 (sc : SC) (σ : SS) (a j q : Nat) (hj : j < q) (hq : a + q ≤ 79) : Cs sc mX8_cell 0 0 [.ref 18, .int (nI a), .int (nI j), .int (nI q)] σ (PI (σ.1 19 (a + j)) σ) := by
  refine Cs.of gmX8_cell (Nat.le_of_ble_eq_true rfl) ?_
  show Ws sc mX8_cell 0 0 0 0 0 [(0, .ref 18), (1, .int (nI a)), (2, .int (nI j)), (3, .int (nI q))] [] σ (PI (σ.1 19 (a + j)) σ)
  refine r_iload_n rfl rfl ?_
  refine r_iload_n rfl rfl ?_
  refine n_iadd rfl ?_
  refine r_istore (lv' := [(4, .int (nI (a + j))), (0, .ref 18), (1, .int (nI a)), (2, .int (nI j)), (3, .int (nI q))]) rfl (Nat.le_of_ble_eq_true rfl) rfl ?_
  refine r_iload_n rfl rfl ?_
  refine n_if_lt (tgt := 33) rfl rfl (by omega) (fun hq => absurd hq (by omega)) (fun _ => ?_)
  refine r_iload_n rfl rfl ?_
  refine r_iload_n rfl rfl ?_
  refine n_icmp_ge (tgt := 33) rfl rfl (by omega) (by omega) (fun hq => absurd hq (by omega)) (fun _ => ?_)
  refine r_iload rfl rfl ?_
  refine n_if_lt (tgt := 33) rfl rfl (by omega) (fun hq => absurd hq (by omega)) (fun _ => ?_)
  refine r_iload rfl rfl ?_
  refine r_aload_n rfl rfl ?_
  refine s_getR (r := 19) rfl flX8_11 rfl rfl ?_
  refine s_alen rfl rfl ?_
  refine n_icmp_ge (tgt := 33) rfl rfl (by omega) (by omega) (fun hq => absurd hq (by omega)) (fun _ => ?_)
  refine n_iconst 1 rfl ?_
  refine r_goto (tgt := 34) rfl rfl ?_
  refine r_istore (lv' := [(5, .int (nI 1)), (4, .int (nI (a + j))), (0, .ref 18), (1, .int (nI a)), (2, .int (nI j)), (3, .int (nI q))]) rfl (Nat.le_of_ble_eq_true rfl) rfl ?_
  refine r_iload rfl rfl ?_
  refine n_if_eq (tgt := 51) rfl rfl (by omega) (fun hq => absurd hq (by omega)) (fun _ => ?_)
  refine r_aload_n rfl rfl ?_
  refine s_getR (r := 19) rfl flX8_11 rfl rfl ?_
  refine r_iload rfl rfl ?_
  refine s_iald rfl rfl (by omega) rfl ?_
  refine r_goto (tgt := 52) rfl rfl ?_
  exact s_ret rfl rfl rfl (Nat.zero_le _) (Nat.zero_le _) (pI rfl)

theorem c_cell_34 (sc : SC) (σ : SS) (a j q : Nat) (hj : j < q) (hq : a + q ≤ 79) : Cs sc mX8_cell 0 0 [.ref 34, .int (nI a), .int (nI j), .int (nI q)] σ (PI (σ.1 35 (a + j)) σ) := by
  refine Cs.of gmX8_cell (Nat.le_of_ble_eq_true rfl) ?_
  show Ws sc mX8_cell 0 0 0 0 0 [(0, .ref 34), (1, .int (nI a)), (2, .int (nI j)), (3, .int (nI q))] [] σ (PI (σ.1 35 (a + j)) σ)
  refine r_iload_n rfl rfl ?_
  refine r_iload_n rfl rfl ?_
  refine n_iadd rfl ?_
  refine r_istore (lv' := [(4, .int (nI (a + j))), (0, .ref 34), (1, .int (nI a)), (2, .int (nI j)), (3, .int (nI q))]) rfl (Nat.le_of_ble_eq_true rfl) rfl ?_
  refine r_iload_n rfl rfl ?_
  refine n_if_lt (tgt := 33) rfl rfl (by omega) (fun hq => absurd hq (by omega)) (fun _ => ?_)
  refine r_iload_n rfl rfl ?_
  refine r_iload_n rfl rfl ?_
  refine n_icmp_ge (tgt := 33) rfl rfl (by omega) (by omega) (fun hq => absurd hq (by omega)) (fun _ => ?_)
  refine r_iload rfl rfl ?_
  refine n_if_lt (tgt := 33) rfl rfl (by omega) (fun hq => absurd hq (by omega)) (fun _ => ?_)
  refine r_iload rfl rfl ?_
  refine r_aload_n rfl rfl ?_
  refine s_getR (r := 35) rfl flX8_11 rfl rfl ?_
  refine s_alen rfl rfl ?_
  refine n_icmp_ge (tgt := 33) rfl rfl (by omega) (by omega) (fun hq => absurd hq (by omega)) (fun _ => ?_)
  refine n_iconst 1 rfl ?_
  refine r_goto (tgt := 34) rfl rfl ?_
  refine r_istore (lv' := [(5, .int (nI 1)), (4, .int (nI (a + j))), (0, .ref 34), (1, .int (nI a)), (2, .int (nI j)), (3, .int (nI q))]) rfl (Nat.le_of_ble_eq_true rfl) rfl ?_
  refine r_iload rfl rfl ?_
  refine n_if_eq (tgt := 51) rfl rfl (by omega) (fun hq => absurd hq (by omega)) (fun _ => ?_)
  refine r_aload_n rfl rfl ?_
  refine s_getR (r := 35) rfl flX8_11 rfl rfl ?_
  refine r_iload rfl rfl ?_
  refine s_iald rfl rfl (by omega) rfl ?_
  refine r_goto (tgt := 52) rfl rfl ?_
  exact s_ret rfl rfl rfl (Nat.zero_le _) (Nat.zero_le _) (pI rfl)

theorem c_age_10 (sc : SC) (σ : SS) (j : Nat) (hj : j < 12) : Cs sc mX8_age 0 0 [.ref 10, .int (nI j)] σ (PI (σ.1 11 (0 + j)) σ) := by
  refine Cs.of gmX8_age (Nat.le_of_ble_eq_true rfl) ?_
  show Ws sc mX8_age 0 0 0 0 0 [(0, .ref 10), (1, .int (nI j))] [] σ (PI (σ.1 11 (0 + j)) σ)
  refine r_aload_n rfl rfl ?_
  refine n_iconst 0 rfl ?_
  refine r_iload_n rfl rfl ?_
  refine n_bipush 12 rfl (by decide) ?_
  refine s_virI [.int (nI 0), .int (nI j), .int (nI 12)] [] rfl lkX8_21 rfl rfl rfl (c_cell_10 sc σ 0 j 12 (by omega) (by omega)) rfl rfl (Nat.le_refl _) (Nat.le_refl _) rfl (rI ?_)
  exact s_ret rfl rfl rfl (Nat.zero_le _) (Nat.zero_le _) (pI rfl)

theorem c_value_10 (sc : SC) (σ : SS) (j : Nat) (hj : j < 8) : Cs sc mX8_value 0 0 [.ref 10, .int (nI j)] σ (PI (σ.1 11 (36 + j)) σ) := by
  refine Cs.of gmX8_value (Nat.le_of_ble_eq_true rfl) ?_
  show Ws sc mX8_value 0 0 0 0 0 [(0, .ref 10), (1, .int (nI j))] [] σ (PI (σ.1 11 (36 + j)) σ)
  refine r_aload_n rfl rfl ?_
  refine n_bipush 36 rfl (by decide) ?_
  refine r_iload_n rfl rfl ?_
  refine n_bipush 8 rfl (by decide) ?_
  refine s_virI [.int (nI 36), .int (nI j), .int (nI 8)] [] rfl lkX8_21 rfl rfl rfl (c_cell_10 sc σ 36 j 8 (by omega) (by omega)) rfl rfl (Nat.le_refl _) (Nat.le_refl _) rfl (rI ?_)
  exact s_ret rfl rfl rfl (Nat.zero_le _) (Nat.zero_le _) (pI rfl)

theorem c_debtRank_10 (sc : SC) (σ : SS) (j : Nat) (hj : j < 8) : Cs sc mX8_debtRank 0 0 [.ref 10, .int (nI j)] σ (PI (σ.1 11 (62 + j)) σ) := by
  refine Cs.of gmX8_debtRank (Nat.le_of_ble_eq_true rfl) ?_
  show Ws sc mX8_debtRank 0 0 0 0 0 [(0, .ref 10), (1, .int (nI j))] [] σ (PI (σ.1 11 (62 + j)) σ)
  refine r_aload_n rfl rfl ?_
  refine n_bipush 62 rfl (by decide) ?_
  refine r_iload_n rfl rfl ?_
  refine n_bipush 8 rfl (by decide) ?_
  refine s_virI [.int (nI 62), .int (nI j), .int (nI 8)] [] rfl lkX8_21 rfl rfl rfl (c_cell_10 sc σ 62 j 8 (by omega) (by omega)) rfl rfl (Nat.le_refl _) (Nat.le_refl _) rfl (rI ?_)
  exact s_ret rfl rfl rfl (Nat.zero_le _) (Nat.zero_le _) (pI rfl)

theorem c_debtAmount_10 (sc : SC) (σ : SS) (j : Nat) (hj : j < 8) : Cs sc mX8_debtAmount 0 0 [.ref 10, .int (nI j)] σ (PI (σ.1 11 (70 + j)) σ) := by
  refine Cs.of gmX8_debtAmount (Nat.le_of_ble_eq_true rfl) ?_
  show Ws sc mX8_debtAmount 0 0 0 0 0 [(0, .ref 10), (1, .int (nI j))] [] σ (PI (σ.1 11 (70 + j)) σ)
  refine r_aload_n rfl rfl ?_
  refine n_bipush 70 rfl (by decide) ?_
  refine r_iload_n rfl rfl ?_
  refine n_bipush 8 rfl (by decide) ?_
  refine s_virI [.int (nI 70), .int (nI j), .int (nI 8)] [] rfl lkX8_21 rfl rfl rfl (c_cell_10 sc σ 70 j 8 (by omega) (by omega)) rfl rfl (Nat.le_refl _) (Nat.le_refl _) rfl (rI ?_)
  exact s_ret rfl rfl rfl (Nat.zero_le _) (Nat.zero_le _) (pI rfl)

theorem c_age_18 (sc : SC) (σ : SS) (j : Nat) (hj : j < 12) : Cs sc mX8_age 0 0 [.ref 18, .int (nI j)] σ (PI (σ.1 19 (0 + j)) σ) := by
  refine Cs.of gmX8_age (Nat.le_of_ble_eq_true rfl) ?_
  show Ws sc mX8_age 0 0 0 0 0 [(0, .ref 18), (1, .int (nI j))] [] σ (PI (σ.1 19 (0 + j)) σ)
  refine r_aload_n rfl rfl ?_
  refine n_iconst 0 rfl ?_
  refine r_iload_n rfl rfl ?_
  refine n_bipush 12 rfl (by decide) ?_
  refine s_virI [.int (nI 0), .int (nI j), .int (nI 12)] [] rfl lkX8_21 rfl rfl rfl (c_cell_18 sc σ 0 j 12 (by omega) (by omega)) rfl rfl (Nat.le_refl _) (Nat.le_refl _) rfl (rI ?_)
  exact s_ret rfl rfl rfl (Nat.zero_le _) (Nat.zero_le _) (pI rfl)

theorem c_value_18 (sc : SC) (σ : SS) (j : Nat) (hj : j < 8) : Cs sc mX8_value 0 0 [.ref 18, .int (nI j)] σ (PI (σ.1 19 (36 + j)) σ) := by
  refine Cs.of gmX8_value (Nat.le_of_ble_eq_true rfl) ?_
  show Ws sc mX8_value 0 0 0 0 0 [(0, .ref 18), (1, .int (nI j))] [] σ (PI (σ.1 19 (36 + j)) σ)
  refine r_aload_n rfl rfl ?_
  refine n_bipush 36 rfl (by decide) ?_
  refine r_iload_n rfl rfl ?_
  refine n_bipush 8 rfl (by decide) ?_
  refine s_virI [.int (nI 36), .int (nI j), .int (nI 8)] [] rfl lkX8_21 rfl rfl rfl (c_cell_18 sc σ 36 j 8 (by omega) (by omega)) rfl rfl (Nat.le_refl _) (Nat.le_refl _) rfl (rI ?_)
  exact s_ret rfl rfl rfl (Nat.zero_le _) (Nat.zero_le _) (pI rfl)

theorem c_debtRank_18 (sc : SC) (σ : SS) (j : Nat) (hj : j < 8) : Cs sc mX8_debtRank 0 0 [.ref 18, .int (nI j)] σ (PI (σ.1 19 (62 + j)) σ) := by
  refine Cs.of gmX8_debtRank (Nat.le_of_ble_eq_true rfl) ?_
  show Ws sc mX8_debtRank 0 0 0 0 0 [(0, .ref 18), (1, .int (nI j))] [] σ (PI (σ.1 19 (62 + j)) σ)
  refine r_aload_n rfl rfl ?_
  refine n_bipush 62 rfl (by decide) ?_
  refine r_iload_n rfl rfl ?_
  refine n_bipush 8 rfl (by decide) ?_
  refine s_virI [.int (nI 62), .int (nI j), .int (nI 8)] [] rfl lkX8_21 rfl rfl rfl (c_cell_18 sc σ 62 j 8 (by omega) (by omega)) rfl rfl (Nat.le_refl _) (Nat.le_refl _) rfl (rI ?_)
  exact s_ret rfl rfl rfl (Nat.zero_le _) (Nat.zero_le _) (pI rfl)

theorem c_debtAmount_18 (sc : SC) (σ : SS) (j : Nat) (hj : j < 8) : Cs sc mX8_debtAmount 0 0 [.ref 18, .int (nI j)] σ (PI (σ.1 19 (70 + j)) σ) := by
  refine Cs.of gmX8_debtAmount (Nat.le_of_ble_eq_true rfl) ?_
  show Ws sc mX8_debtAmount 0 0 0 0 0 [(0, .ref 18), (1, .int (nI j))] [] σ (PI (σ.1 19 (70 + j)) σ)
  refine r_aload_n rfl rfl ?_
  refine n_bipush 70 rfl (by decide) ?_
  refine r_iload_n rfl rfl ?_
  refine n_bipush 8 rfl (by decide) ?_
  refine s_virI [.int (nI 70), .int (nI j), .int (nI 8)] [] rfl lkX8_21 rfl rfl rfl (c_cell_18 sc σ 70 j 8 (by omega) (by omega)) rfl rfl (Nat.le_refl _) (Nat.le_refl _) rfl (rI ?_)
  exact s_ret rfl rfl rfl (Nat.zero_le _) (Nat.zero_le _) (pI rfl)

theorem c_age_34 (sc : SC) (σ : SS) (j : Nat) (hj : j < 12) : Cs sc mX8_age 0 0 [.ref 34, .int (nI j)] σ (PI (σ.1 35 (0 + j)) σ) := by
  refine Cs.of gmX8_age (Nat.le_of_ble_eq_true rfl) ?_
  show Ws sc mX8_age 0 0 0 0 0 [(0, .ref 34), (1, .int (nI j))] [] σ (PI (σ.1 35 (0 + j)) σ)
  refine r_aload_n rfl rfl ?_
  refine n_iconst 0 rfl ?_
  refine r_iload_n rfl rfl ?_
  refine n_bipush 12 rfl (by decide) ?_
  refine s_virI [.int (nI 0), .int (nI j), .int (nI 12)] [] rfl lkX8_21 rfl rfl rfl (c_cell_34 sc σ 0 j 12 (by omega) (by omega)) rfl rfl (Nat.le_refl _) (Nat.le_refl _) rfl (rI ?_)
  exact s_ret rfl rfl rfl (Nat.zero_le _) (Nat.zero_le _) (pI rfl)

theorem c_value_34 (sc : SC) (σ : SS) (j : Nat) (hj : j < 8) : Cs sc mX8_value 0 0 [.ref 34, .int (nI j)] σ (PI (σ.1 35 (36 + j)) σ) := by
  refine Cs.of gmX8_value (Nat.le_of_ble_eq_true rfl) ?_
  show Ws sc mX8_value 0 0 0 0 0 [(0, .ref 34), (1, .int (nI j))] [] σ (PI (σ.1 35 (36 + j)) σ)
  refine r_aload_n rfl rfl ?_
  refine n_bipush 36 rfl (by decide) ?_
  refine r_iload_n rfl rfl ?_
  refine n_bipush 8 rfl (by decide) ?_
  refine s_virI [.int (nI 36), .int (nI j), .int (nI 8)] [] rfl lkX8_21 rfl rfl rfl (c_cell_34 sc σ 36 j 8 (by omega) (by omega)) rfl rfl (Nat.le_refl _) (Nat.le_refl _) rfl (rI ?_)
  exact s_ret rfl rfl rfl (Nat.zero_le _) (Nat.zero_le _) (pI rfl)

theorem c_debtRank_34 (sc : SC) (σ : SS) (j : Nat) (hj : j < 8) : Cs sc mX8_debtRank 0 0 [.ref 34, .int (nI j)] σ (PI (σ.1 35 (62 + j)) σ) := by
  refine Cs.of gmX8_debtRank (Nat.le_of_ble_eq_true rfl) ?_
  show Ws sc mX8_debtRank 0 0 0 0 0 [(0, .ref 34), (1, .int (nI j))] [] σ (PI (σ.1 35 (62 + j)) σ)
  refine r_aload_n rfl rfl ?_
  refine n_bipush 62 rfl (by decide) ?_
  refine r_iload_n rfl rfl ?_
  refine n_bipush 8 rfl (by decide) ?_
  refine s_virI [.int (nI 62), .int (nI j), .int (nI 8)] [] rfl lkX8_21 rfl rfl rfl (c_cell_34 sc σ 62 j 8 (by omega) (by omega)) rfl rfl (Nat.le_refl _) (Nat.le_refl _) rfl (rI ?_)
  exact s_ret rfl rfl rfl (Nat.zero_le _) (Nat.zero_le _) (pI rfl)

theorem c_debtAmount_34 (sc : SC) (σ : SS) (j : Nat) (hj : j < 8) : Cs sc mX8_debtAmount 0 0 [.ref 34, .int (nI j)] σ (PI (σ.1 35 (70 + j)) σ) := by
  refine Cs.of gmX8_debtAmount (Nat.le_of_ble_eq_true rfl) ?_
  show Ws sc mX8_debtAmount 0 0 0 0 0 [(0, .ref 34), (1, .int (nI j))] [] σ (PI (σ.1 35 (70 + j)) σ)
  refine r_aload_n rfl rfl ?_
  refine n_bipush 70 rfl (by decide) ?_
  refine r_iload_n rfl rfl ?_
  refine n_bipush 8 rfl (by decide) ?_
  refine s_virI [.int (nI 70), .int (nI j), .int (nI 8)] [] rfl lkX8_21 rfl rfl rfl (c_cell_34 sc σ 70 j 8 (by omega) (by omega)) rfl rfl (Nat.le_refl _) (Nat.le_refl _) rfl (rI ?_)
  exact s_ret rfl rfl rfl (Nat.zero_le _) (Nat.zero_le _) (pI rfl)

