theorem bs_sum (t : Nat) (w : Nat → Nat) (W : Nat) : ∀ m, sm (bs t W w) m * W ≤ t * sm w m
  | 0 => by show 0 * W ≤ _; omega
  | m + 1 => by
    show (sm (bs t W w) m + bs t W w m) * W ≤ t * (sm w m + w m)
    rw [Nat.add_mul, Nat.mul_add]
    exact Nat.add_le_add (bs_sum t w W m) (Nat.div_mul_le_self _ _)
theorem bs_le (t : Nat) (w : Nat → Nat) (m : Nat) : sm (bs t (sm w m) w) m ≤ if sm w m = 0 then 0 else t := by
  by_cases h : sm w m = 0
  · rw [if_pos h, h]
    exact Nat.le_of_eq (sm_zero fun i _ => Nat.div_zero _)
  · rw [if_neg h]
    have h1 := bs_sum t w (sm w m) m
    exact Nat.le_of_mul_le_mul_right h1 (Nat.pos_of_ne_zero h)
theorem rm_le (t W : Nat) (w : Nat → Nat) (m : Nat) : ∀ i, rm t W w m i ≤ t
  | 0 => by
    show (if W = 0 then 0 else t) - sm (bs t W w) m ≤ t
    split <;> omega
  | i + 1 => by
    show (if 0 < rm t W w m i ∧ 0 < w i then rm t W w m i - 1 else rm t W w m i) ≤ t
    have := rm_le t W w m i
    split <;> omega
theorem gcd_half {x y : Nat} (h0 : 0 < y) (h : y ≤ x) : x % y * 2 ≤ x := by
  have h1 := Nat.div_add_mod x y
  have h2 : 1 ≤ x / y := (Nat.one_le_div_iff h0).mpr h
  have h3 : y * 1 ≤ y * (x / y) := Nat.mul_le_mul_left y h2
  have h4 := Nat.mod_lt x h0
  omega
theorem nar_tb (c : Bool) : narrow .boolean (.int (nI (tb c))) = .int (nI (tb c)) := by cases c <;> decide
theorem c_at_6 {z : SZ} {sc : SC} {σ : SS} {j : Nat} {v : Int32} (hj : j < 12) (hv : σ.1 6 j = v) : Cs z sc mX9_at 0 0 [.ref 6, .int (nI j)] σ (PI v σ) := by
  refine Cs.of gmX9_at (Nat.le_of_ble_eq_true rfl) ?_
  show Ws z sc mX9_at 0 0 0 0 0 [(0, .ref 6), (1, .int (nI j))] [] (mz σ [] []) (PI v σ)
  refine r_iload_n rfl rfl ?_
  refine n_if_lt (tgt := 16) rfl rfl (by omega) (fun hq => hq.elim) (fun _ => ?_)
  refine r_iload_n rfl rfl ?_
  refine r_aload_n rfl rfl ?_
  refine s_alen rfl rfl ?_
  refine n_icmp_ge (tgt := 16) rfl rfl (by omega) (by omega) (fun hq => absurd hq (by omega)) (fun _ => ?_)
  refine r_aload_n rfl rfl ?_
  refine r_iload_n rfl rfl ?_
  refine s_iald (x := v) rfl rfl (by omega) hv ?_
  refine r_goto (tgt := 17) rfl rfl ?_
  exact s_ret (st := []) rfl rfl rfl (Nat.zero_le _) (Nat.zero_le _) (pI rfl rfl)

theorem c_at_7 {z : SZ} {sc : SC} {σ : SS} {j : Nat} {v : Int32} (hj : j < 8) (hv : σ.1 7 j = v) : Cs z sc mX9_at 0 0 [.ref 7, .int (nI j)] σ (PI v σ) := by
  refine Cs.of gmX9_at (Nat.le_of_ble_eq_true rfl) ?_
  show Ws z sc mX9_at 0 0 0 0 0 [(0, .ref 7), (1, .int (nI j))] [] (mz σ [] []) (PI v σ)
  refine r_iload_n rfl rfl ?_
  refine n_if_lt (tgt := 16) rfl rfl (by omega) (fun hq => hq.elim) (fun _ => ?_)
  refine r_iload_n rfl rfl ?_
  refine r_aload_n rfl rfl ?_
  refine s_alen rfl rfl ?_
  refine n_icmp_ge (tgt := 16) rfl rfl (by omega) (by omega) (fun hq => absurd hq (by omega)) (fun _ => ?_)
  refine r_aload_n rfl rfl ?_
  refine r_iload_n rfl rfl ?_
  refine s_iald (x := v) rfl rfl (by omega) hv ?_
  refine r_goto (tgt := 17) rfl rfl ?_
  exact s_ret (st := []) rfl rfl rfl (Nat.zero_le _) (Nat.zero_le _) (pI rfl rfl)

theorem c_at_8 {z : SZ} {sc : SC} {σ : SS} {j : Nat} {v : Int32} (hj : j < 8) (hv : σ.1 8 j = v) : Cs z sc mX9_at 0 0 [.ref 8, .int (nI j)] σ (PI v σ) := by
  refine Cs.of gmX9_at (Nat.le_of_ble_eq_true rfl) ?_
  show Ws z sc mX9_at 0 0 0 0 0 [(0, .ref 8), (1, .int (nI j))] [] (mz σ [] []) (PI v σ)
  refine r_iload_n rfl rfl ?_
  refine n_if_lt (tgt := 16) rfl rfl (by omega) (fun hq => hq.elim) (fun _ => ?_)
  refine r_iload_n rfl rfl ?_
  refine r_aload_n rfl rfl ?_
  refine s_alen rfl rfl ?_
  refine n_icmp_ge (tgt := 16) rfl rfl (by omega) (by omega) (fun hq => absurd hq (by omega)) (fun _ => ?_)
  refine r_aload_n rfl rfl ?_
  refine r_iload_n rfl rfl ?_
  refine s_iald (x := v) rfl rfl (by omega) hv ?_
  refine r_goto (tgt := 17) rfl rfl ?_
  exact s_ret (st := []) rfl rfl rfl (Nat.zero_le _) (Nat.zero_le _) (pI rfl rfl)

theorem c_at_9 {z : SZ} {sc : SC} {σ : SS} {j : Nat} {v : Int32} (hj : j < 8) (hv : σ.1 9 j = v) : Cs z sc mX9_at 0 0 [.ref 9, .int (nI j)] σ (PI v σ) := by
  refine Cs.of gmX9_at (Nat.le_of_ble_eq_true rfl) ?_
  show Ws z sc mX9_at 0 0 0 0 0 [(0, .ref 9), (1, .int (nI j))] [] (mz σ [] []) (PI v σ)
  refine r_iload_n rfl rfl ?_
  refine n_if_lt (tgt := 16) rfl rfl (by omega) (fun hq => hq.elim) (fun _ => ?_)
  refine r_iload_n rfl rfl ?_
  refine r_aload_n rfl rfl ?_
  refine s_alen rfl rfl ?_
  refine n_icmp_ge (tgt := 16) rfl rfl (by omega) (by omega) (fun hq => absurd hq (by omega)) (fun _ => ?_)
  refine r_aload_n rfl rfl ?_
  refine r_iload_n rfl rfl ?_
  refine s_iald (x := v) rfl rfl (by omega) hv ?_
  refine r_goto (tgt := 17) rfl rfl ?_
  exact s_ret (st := []) rfl rfl rfl (Nat.zero_le _) (Nat.zero_le _) (pI rfl rfl)

theorem c_at_14 {z : SZ} {sc : SC} {σ : SS} {j : Nat} {v : Int32} (hj : j < 12) (hv : σ.1 14 j = v) : Cs z sc mX9_at 0 0 [.ref 14, .int (nI j)] σ (PI v σ) := by
  refine Cs.of gmX9_at (Nat.le_of_ble_eq_true rfl) ?_
  show Ws z sc mX9_at 0 0 0 0 0 [(0, .ref 14), (1, .int (nI j))] [] (mz σ [] []) (PI v σ)
  refine r_iload_n rfl rfl ?_
  refine n_if_lt (tgt := 16) rfl rfl (by omega) (fun hq => hq.elim) (fun _ => ?_)
  refine r_iload_n rfl rfl ?_
  refine r_aload_n rfl rfl ?_
  refine s_alen rfl rfl ?_
  refine n_icmp_ge (tgt := 16) rfl rfl (by omega) (by omega) (fun hq => absurd hq (by omega)) (fun _ => ?_)
  refine r_aload_n rfl rfl ?_
  refine r_iload_n rfl rfl ?_
  refine s_iald (x := v) rfl rfl (by omega) hv ?_
  refine r_goto (tgt := 17) rfl rfl ?_
  exact s_ret (st := []) rfl rfl rfl (Nat.zero_le _) (Nat.zero_le _) (pI rfl rfl)

theorem c_at_15 {z : SZ} {sc : SC} {σ : SS} {j : Nat} {v : Int32} (hj : j < 8) (hv : σ.1 15 j = v) : Cs z sc mX9_at 0 0 [.ref 15, .int (nI j)] σ (PI v σ) := by
  refine Cs.of gmX9_at (Nat.le_of_ble_eq_true rfl) ?_
  show Ws z sc mX9_at 0 0 0 0 0 [(0, .ref 15), (1, .int (nI j))] [] (mz σ [] []) (PI v σ)
  refine r_iload_n rfl rfl ?_
  refine n_if_lt (tgt := 16) rfl rfl (by omega) (fun hq => hq.elim) (fun _ => ?_)
  refine r_iload_n rfl rfl ?_
  refine r_aload_n rfl rfl ?_
  refine s_alen rfl rfl ?_
  refine n_icmp_ge (tgt := 16) rfl rfl (by omega) (by omega) (fun hq => absurd hq (by omega)) (fun _ => ?_)
  refine r_aload_n rfl rfl ?_
  refine r_iload_n rfl rfl ?_
  refine s_iald (x := v) rfl rfl (by omega) hv ?_
  refine r_goto (tgt := 17) rfl rfl ?_
  exact s_ret (st := []) rfl rfl rfl (Nat.zero_le _) (Nat.zero_le _) (pI rfl rfl)

theorem c_at_16 {z : SZ} {sc : SC} {σ : SS} {j : Nat} {v : Int32} (hj : j < 8) (hv : σ.1 16 j = v) : Cs z sc mX9_at 0 0 [.ref 16, .int (nI j)] σ (PI v σ) := by
  refine Cs.of gmX9_at (Nat.le_of_ble_eq_true rfl) ?_
  show Ws z sc mX9_at 0 0 0 0 0 [(0, .ref 16), (1, .int (nI j))] [] (mz σ [] []) (PI v σ)
  refine r_iload_n rfl rfl ?_
  refine n_if_lt (tgt := 16) rfl rfl (by omega) (fun hq => hq.elim) (fun _ => ?_)
  refine r_iload_n rfl rfl ?_
  refine r_aload_n rfl rfl ?_
  refine s_alen rfl rfl ?_
  refine n_icmp_ge (tgt := 16) rfl rfl (by omega) (by omega) (fun hq => absurd hq (by omega)) (fun _ => ?_)
  refine r_aload_n rfl rfl ?_
  refine r_iload_n rfl rfl ?_
  refine s_iald (x := v) rfl rfl (by omega) hv ?_
  refine r_goto (tgt := 17) rfl rfl ?_
  exact s_ret (st := []) rfl rfl rfl (Nat.zero_le _) (Nat.zero_le _) (pI rfl rfl)

theorem c_at_17 {z : SZ} {sc : SC} {σ : SS} {j : Nat} {v : Int32} (hj : j < 8) (hv : σ.1 17 j = v) : Cs z sc mX9_at 0 0 [.ref 17, .int (nI j)] σ (PI v σ) := by
  refine Cs.of gmX9_at (Nat.le_of_ble_eq_true rfl) ?_
  show Ws z sc mX9_at 0 0 0 0 0 [(0, .ref 17), (1, .int (nI j))] [] (mz σ [] []) (PI v σ)
  refine r_iload_n rfl rfl ?_
  refine n_if_lt (tgt := 16) rfl rfl (by omega) (fun hq => hq.elim) (fun _ => ?_)
  refine r_iload_n rfl rfl ?_
  refine r_aload_n rfl rfl ?_
  refine s_alen rfl rfl ?_
  refine n_icmp_ge (tgt := 16) rfl rfl (by omega) (by omega) (fun hq => absurd hq (by omega)) (fun _ => ?_)
  refine r_aload_n rfl rfl ?_
  refine r_iload_n rfl rfl ?_
  refine s_iald (x := v) rfl rfl (by omega) hv ?_
  refine r_goto (tgt := 17) rfl rfl ?_
  exact s_ret (st := []) rfl rfl rfl (Nat.zero_le _) (Nat.zero_le _) (pI rfl rfl)

theorem c_at_22 {z : SZ} {sc : SC} {σ : SS} {j : Nat} {v : Int32} (hj : j < 8) (hv : σ.1 22 j = v) : Cs z sc mX9_at 0 0 [.ref 22, .int (nI j)] σ (PI v σ) := by
  refine Cs.of gmX9_at (Nat.le_of_ble_eq_true rfl) ?_
  show Ws z sc mX9_at 0 0 0 0 0 [(0, .ref 22), (1, .int (nI j))] [] (mz σ [] []) (PI v σ)
  refine r_iload_n rfl rfl ?_
  refine n_if_lt (tgt := 16) rfl rfl (by omega) (fun hq => hq.elim) (fun _ => ?_)
  refine r_iload_n rfl rfl ?_
  refine r_aload_n rfl rfl ?_
  refine s_alen rfl rfl ?_
  refine n_icmp_ge (tgt := 16) rfl rfl (by omega) (by omega) (fun hq => absurd hq (by omega)) (fun _ => ?_)
  refine r_aload_n rfl rfl ?_
  refine r_iload_n rfl rfl ?_
  refine s_iald (x := v) rfl rfl (by omega) hv ?_
  refine r_goto (tgt := 17) rfl rfl ?_
  exact s_ret (st := []) rfl rfl rfl (Nat.zero_le _) (Nat.zero_le _) (pI rfl rfl)

theorem c_at_23 {z : SZ} {sc : SC} {σ : SS} {j : Nat} {v : Int32} (hj : j < 8) (hv : σ.1 23 j = v) : Cs z sc mX9_at 0 0 [.ref 23, .int (nI j)] σ (PI v σ) := by
  refine Cs.of gmX9_at (Nat.le_of_ble_eq_true rfl) ?_
  show Ws z sc mX9_at 0 0 0 0 0 [(0, .ref 23), (1, .int (nI j))] [] (mz σ [] []) (PI v σ)
  refine r_iload_n rfl rfl ?_
  refine n_if_lt (tgt := 16) rfl rfl (by omega) (fun hq => hq.elim) (fun _ => ?_)
  refine r_iload_n rfl rfl ?_
  refine r_aload_n rfl rfl ?_
  refine s_alen rfl rfl ?_
  refine n_icmp_ge (tgt := 16) rfl rfl (by omega) (by omega) (fun hq => absurd hq (by omega)) (fun _ => ?_)
  refine r_aload_n rfl rfl ?_
  refine r_iload_n rfl rfl ?_
  refine s_iald (x := v) rfl rfl (by omega) hv ?_
  refine r_goto (tgt := 17) rfl rfl ?_
  exact s_ret (st := []) rfl rfl rfl (Nat.zero_le _) (Nat.zero_le _) (pI rfl rfl)

theorem c_at_24 {z : SZ} {sc : SC} {σ : SS} {j : Nat} {v : Int32} (hj : j < 8) (hv : σ.1 24 j = v) : Cs z sc mX9_at 0 0 [.ref 24, .int (nI j)] σ (PI v σ) := by
  refine Cs.of gmX9_at (Nat.le_of_ble_eq_true rfl) ?_
  show Ws z sc mX9_at 0 0 0 0 0 [(0, .ref 24), (1, .int (nI j))] [] (mz σ [] []) (PI v σ)
  refine r_iload_n rfl rfl ?_
  refine n_if_lt (tgt := 16) rfl rfl (by omega) (fun hq => hq.elim) (fun _ => ?_)
  refine r_iload_n rfl rfl ?_
  refine r_aload_n rfl rfl ?_
  refine s_alen rfl rfl ?_
  refine n_icmp_ge (tgt := 16) rfl rfl (by omega) (by omega) (fun hq => absurd hq (by omega)) (fun _ => ?_)
  refine r_aload_n rfl rfl ?_
  refine r_iload_n rfl rfl ?_
  refine s_iald (x := v) rfl rfl (by omega) hv ?_
  refine r_goto (tgt := 17) rfl rfl ?_
  exact s_ret (st := []) rfl rfl rfl (Nat.zero_le _) (Nat.zero_le _) (pI rfl rfl)

theorem c_at_25 {z : SZ} {sc : SC} {σ : SS} {j : Nat} {v : Int32} (hj : j < 8) (hv : σ.1 25 j = v) : Cs z sc mX9_at 0 0 [.ref 25, .int (nI j)] σ (PI v σ) := by
  refine Cs.of gmX9_at (Nat.le_of_ble_eq_true rfl) ?_
  show Ws z sc mX9_at 0 0 0 0 0 [(0, .ref 25), (1, .int (nI j))] [] (mz σ [] []) (PI v σ)
  refine r_iload_n rfl rfl ?_
  refine n_if_lt (tgt := 16) rfl rfl (by omega) (fun hq => hq.elim) (fun _ => ?_)
  refine r_iload_n rfl rfl ?_
  refine r_aload_n rfl rfl ?_
  refine s_alen rfl rfl ?_
  refine n_icmp_ge (tgt := 16) rfl rfl (by omega) (by omega) (fun hq => absurd hq (by omega)) (fun _ => ?_)
  refine r_aload_n rfl rfl ?_
  refine r_iload_n rfl rfl ?_
  refine s_iald (x := v) rfl rfl (by omega) hv ?_
  refine r_goto (tgt := 17) rfl rfl ?_
  exact s_ret (st := []) rfl rfl rfl (Nat.zero_le _) (Nat.zero_le _) (pI rfl rfl)

theorem c_at_27 {z : SZ} {sc : SC} {σ : SS} {j : Nat} {v : Int32} (hj : j < 13) (hv : σ.1 27 j = v) : Cs z sc mX9_at 0 0 [.ref 27, .int (nI j)] σ (PI v σ) := by
  refine Cs.of gmX9_at (Nat.le_of_ble_eq_true rfl) ?_
  show Ws z sc mX9_at 0 0 0 0 0 [(0, .ref 27), (1, .int (nI j))] [] (mz σ [] []) (PI v σ)
  refine r_iload_n rfl rfl ?_
  refine n_if_lt (tgt := 16) rfl rfl (by omega) (fun hq => hq.elim) (fun _ => ?_)
  refine r_iload_n rfl rfl ?_
  refine r_aload_n rfl rfl ?_
  refine s_alen rfl rfl ?_
  refine n_icmp_ge (tgt := 16) rfl rfl (by omega) (by omega) (fun hq => absurd hq (by omega)) (fun _ => ?_)
  refine r_aload_n rfl rfl ?_
  refine r_iload_n rfl rfl ?_
  refine s_iald (x := v) rfl rfl (by omega) hv ?_
  refine r_goto (tgt := 17) rfl rfl ?_
  exact s_ret (st := []) rfl rfl rfl (Nat.zero_le _) (Nat.zero_le _) (pI rfl rfl)

theorem c_at_28 {z : SZ} {sc : SC} {σ : SS} {j : Nat} {v : Int32} (hj : j < 12) (hv : σ.1 28 j = v) : Cs z sc mX9_at 0 0 [.ref 28, .int (nI j)] σ (PI v σ) := by
  refine Cs.of gmX9_at (Nat.le_of_ble_eq_true rfl) ?_
  show Ws z sc mX9_at 0 0 0 0 0 [(0, .ref 28), (1, .int (nI j))] [] (mz σ [] []) (PI v σ)
  refine r_iload_n rfl rfl ?_
  refine n_if_lt (tgt := 16) rfl rfl (by omega) (fun hq => hq.elim) (fun _ => ?_)
  refine r_iload_n rfl rfl ?_
  refine r_aload_n rfl rfl ?_
  refine s_alen rfl rfl ?_
  refine n_icmp_ge (tgt := 16) rfl rfl (by omega) (by omega) (fun hq => absurd hq (by omega)) (fun _ => ?_)
  refine r_aload_n rfl rfl ?_
  refine r_iload_n rfl rfl ?_
  refine s_iald (x := v) rfl rfl (by omega) hv ?_
  refine r_goto (tgt := 17) rfl rfl ?_
  exact s_ret (st := []) rfl rfl rfl (Nat.zero_le _) (Nat.zero_le _) (pI rfl rfl)

theorem c_at_29 {z : SZ} {sc : SC} {σ : SS} {j : Nat} {v : Int32} (hj : j < 12) (hv : σ.1 29 j = v) : Cs z sc mX9_at 0 0 [.ref 29, .int (nI j)] σ (PI v σ) := by
  refine Cs.of gmX9_at (Nat.le_of_ble_eq_true rfl) ?_
  show Ws z sc mX9_at 0 0 0 0 0 [(0, .ref 29), (1, .int (nI j))] [] (mz σ [] []) (PI v σ)
  refine r_iload_n rfl rfl ?_
  refine n_if_lt (tgt := 16) rfl rfl (by omega) (fun hq => hq.elim) (fun _ => ?_)
  refine r_iload_n rfl rfl ?_
  refine r_aload_n rfl rfl ?_
  refine s_alen rfl rfl ?_
  refine n_icmp_ge (tgt := 16) rfl rfl (by omega) (by omega) (fun hq => absurd hq (by omega)) (fun _ => ?_)
  refine r_aload_n rfl rfl ?_
  refine r_iload_n rfl rfl ?_
  refine s_iald (x := v) rfl rfl (by omega) hv ?_
  refine r_goto (tgt := 17) rfl rfl ?_
  exact s_ret (st := []) rfl rfl rfl (Nat.zero_le _) (Nat.zero_le _) (pI rfl rfl)

theorem c_at_31 {z : SZ} {sc : SC} {σ : SS} {j : Nat} {v : Int32} (hj : j < 12) (hv : σ.1 31 j = v) : Cs z sc mX9_at 0 0 [.ref 31, .int (nI j)] σ (PI v σ) := by
  refine Cs.of gmX9_at (Nat.le_of_ble_eq_true rfl) ?_
  show Ws z sc mX9_at 0 0 0 0 0 [(0, .ref 31), (1, .int (nI j))] [] (mz σ [] []) (PI v σ)
  refine r_iload_n rfl rfl ?_
  refine n_if_lt (tgt := 16) rfl rfl (by omega) (fun hq => hq.elim) (fun _ => ?_)
  refine r_iload_n rfl rfl ?_
  refine r_aload_n rfl rfl ?_
  refine s_alen rfl rfl ?_
  refine n_icmp_ge (tgt := 16) rfl rfl (by omega) (by omega) (fun hq => absurd hq (by omega)) (fun _ => ?_)
  refine r_aload_n rfl rfl ?_
  refine r_iload_n rfl rfl ?_
  refine s_iald (x := v) rfl rfl (by omega) hv ?_
  refine r_goto (tgt := 17) rfl rfl ?_
  exact s_ret (st := []) rfl rfl rfl (Nat.zero_le _) (Nat.zero_le _) (pI rfl rfl)

theorem c_at_32 {z : SZ} {sc : SC} {σ : SS} {j : Nat} {v : Int32} (hj : j < 12) (hv : σ.1 32 j = v) : Cs z sc mX9_at 0 0 [.ref 32, .int (nI j)] σ (PI v σ) := by
  refine Cs.of gmX9_at (Nat.le_of_ble_eq_true rfl) ?_
  show Ws z sc mX9_at 0 0 0 0 0 [(0, .ref 32), (1, .int (nI j))] [] (mz σ [] []) (PI v σ)
  refine r_iload_n rfl rfl ?_
  refine n_if_lt (tgt := 16) rfl rfl (by omega) (fun hq => hq.elim) (fun _ => ?_)
  refine r_iload_n rfl rfl ?_
  refine r_aload_n rfl rfl ?_
  refine s_alen rfl rfl ?_
  refine n_icmp_ge (tgt := 16) rfl rfl (by omega) (by omega) (fun hq => absurd hq (by omega)) (fun _ => ?_)
  refine r_aload_n rfl rfl ?_
  refine r_iload_n rfl rfl ?_
  refine s_iald (x := v) rfl rfl (by omega) hv ?_
  refine r_goto (tgt := 17) rfl rfl ?_
  exact s_ret (st := []) rfl rfl rfl (Nat.zero_le _) (Nat.zero_le _) (pI rfl rfl)

theorem c_at_33 {z : SZ} {sc : SC} {σ : SS} {j : Nat} {v : Int32} (hj : j < 12) (hv : σ.1 33 j = v) : Cs z sc mX9_at 0 0 [.ref 33, .int (nI j)] σ (PI v σ) := by
  refine Cs.of gmX9_at (Nat.le_of_ble_eq_true rfl) ?_
  show Ws z sc mX9_at 0 0 0 0 0 [(0, .ref 33), (1, .int (nI j))] [] (mz σ [] []) (PI v σ)
  refine r_iload_n rfl rfl ?_
  refine n_if_lt (tgt := 16) rfl rfl (by omega) (fun hq => hq.elim) (fun _ => ?_)
  refine r_iload_n rfl rfl ?_
  refine r_aload_n rfl rfl ?_
  refine s_alen rfl rfl ?_
  refine n_icmp_ge (tgt := 16) rfl rfl (by omega) (by omega) (fun hq => absurd hq (by omega)) (fun _ => ?_)
  refine r_aload_n rfl rfl ?_
  refine r_iload_n rfl rfl ?_
  refine s_iald (x := v) rfl rfl (by omega) hv ?_
  refine r_goto (tgt := 17) rfl rfl ?_
  exact s_ret (st := []) rfl rfl rfl (Nat.zero_le _) (Nat.zero_le _) (pI rfl rfl)

theorem c_at_38 {z : SZ} {sc : SC} {σ : SS} {j : Nat} {v : Int32} (hj : j < 8) (hv : σ.1 38 j = v) : Cs z sc mX9_at 0 0 [.ref 38, .int (nI j)] σ (PI v σ) := by
  refine Cs.of gmX9_at (Nat.le_of_ble_eq_true rfl) ?_
  show Ws z sc mX9_at 0 0 0 0 0 [(0, .ref 38), (1, .int (nI j))] [] (mz σ [] []) (PI v σ)
  refine r_iload_n rfl rfl ?_
  refine n_if_lt (tgt := 16) rfl rfl (by omega) (fun hq => hq.elim) (fun _ => ?_)
  refine r_iload_n rfl rfl ?_
  refine r_aload_n rfl rfl ?_
  refine s_alen rfl rfl ?_
  refine n_icmp_ge (tgt := 16) rfl rfl (by omega) (by omega) (fun hq => absurd hq (by omega)) (fun _ => ?_)
  refine r_aload_n rfl rfl ?_
  refine r_iload_n rfl rfl ?_
  refine s_iald (x := v) rfl rfl (by omega) hv ?_
  refine r_goto (tgt := 17) rfl rfl ?_
  exact s_ret (st := []) rfl rfl rfl (Nat.zero_le _) (Nat.zero_le _) (pI rfl rfl)

theorem c_at_39 {z : SZ} {sc : SC} {σ : SS} {j : Nat} {v : Int32} (hj : j < 8) (hv : σ.1 39 j = v) : Cs z sc mX9_at 0 0 [.ref 39, .int (nI j)] σ (PI v σ) := by
  refine Cs.of gmX9_at (Nat.le_of_ble_eq_true rfl) ?_
  show Ws z sc mX9_at 0 0 0 0 0 [(0, .ref 39), (1, .int (nI j))] [] (mz σ [] []) (PI v σ)
  refine r_iload_n rfl rfl ?_
  refine n_if_lt (tgt := 16) rfl rfl (by omega) (fun hq => hq.elim) (fun _ => ?_)
  refine r_iload_n rfl rfl ?_
  refine r_aload_n rfl rfl ?_
  refine s_alen rfl rfl ?_
  refine n_icmp_ge (tgt := 16) rfl rfl (by omega) (by omega) (fun hq => absurd hq (by omega)) (fun _ => ?_)
  refine r_aload_n rfl rfl ?_
  refine r_iload_n rfl rfl ?_
  refine s_iald (x := v) rfl rfl (by omega) hv ?_
  refine r_goto (tgt := 17) rfl rfl ?_
  exact s_ret (st := []) rfl rfl rfl (Nat.zero_le _) (Nat.zero_le _) (pI rfl rfl)

theorem c_at_40 {z : SZ} {sc : SC} {σ : SS} {j : Nat} {v : Int32} (hj : j < 8) (hv : σ.1 40 j = v) : Cs z sc mX9_at 0 0 [.ref 40, .int (nI j)] σ (PI v σ) := by
  refine Cs.of gmX9_at (Nat.le_of_ble_eq_true rfl) ?_
  show Ws z sc mX9_at 0 0 0 0 0 [(0, .ref 40), (1, .int (nI j))] [] (mz σ [] []) (PI v σ)
  refine r_iload_n rfl rfl ?_
  refine n_if_lt (tgt := 16) rfl rfl (by omega) (fun hq => hq.elim) (fun _ => ?_)
  refine r_iload_n rfl rfl ?_
  refine r_aload_n rfl rfl ?_
  refine s_alen rfl rfl ?_
  refine n_icmp_ge (tgt := 16) rfl rfl (by omega) (by omega) (fun hq => absurd hq (by omega)) (fun _ => ?_)
  refine r_aload_n rfl rfl ?_
  refine r_iload_n rfl rfl ?_
  refine s_iald (x := v) rfl rfl (by omega) hv ?_
  refine r_goto (tgt := 17) rfl rfl ?_
  exact s_ret (st := []) rfl rfl rfl (Nat.zero_le _) (Nat.zero_le _) (pI rfl rfl)

theorem c_at_41 {z : SZ} {sc : SC} {σ : SS} {j : Nat} {v : Int32} (hj : j < 8) (hv : σ.1 41 j = v) : Cs z sc mX9_at 0 0 [.ref 41, .int (nI j)] σ (PI v σ) := by
  refine Cs.of gmX9_at (Nat.le_of_ble_eq_true rfl) ?_
  show Ws z sc mX9_at 0 0 0 0 0 [(0, .ref 41), (1, .int (nI j))] [] (mz σ [] []) (PI v σ)
  refine r_iload_n rfl rfl ?_
  refine n_if_lt (tgt := 16) rfl rfl (by omega) (fun hq => hq.elim) (fun _ => ?_)
  refine r_iload_n rfl rfl ?_
  refine r_aload_n rfl rfl ?_
  refine s_alen rfl rfl ?_
  refine n_icmp_ge (tgt := 16) rfl rfl (by omega) (by omega) (fun hq => absurd hq (by omega)) (fun _ => ?_)
  refine r_aload_n rfl rfl ?_
  refine r_iload_n rfl rfl ?_
  refine s_iald (x := v) rfl rfl (by omega) hv ?_
  refine r_goto (tgt := 17) rfl rfl ?_
  exact s_ret (st := []) rfl rfl rfl (Nat.zero_le _) (Nat.zero_le _) (pI rfl rfl)

theorem c_at_43 {z : SZ} {sc : SC} {σ : SS} {j : Nat} {v : Int32} (hj : j < 13) (hv : σ.1 43 j = v) : Cs z sc mX9_at 0 0 [.ref 43, .int (nI j)] σ (PI v σ) := by
  refine Cs.of gmX9_at (Nat.le_of_ble_eq_true rfl) ?_
  show Ws z sc mX9_at 0 0 0 0 0 [(0, .ref 43), (1, .int (nI j))] [] (mz σ [] []) (PI v σ)
  refine r_iload_n rfl rfl ?_
  refine n_if_lt (tgt := 16) rfl rfl (by omega) (fun hq => hq.elim) (fun _ => ?_)
  refine r_iload_n rfl rfl ?_
  refine r_aload_n rfl rfl ?_
  refine s_alen rfl rfl ?_
  refine n_icmp_ge (tgt := 16) rfl rfl (by omega) (by omega) (fun hq => absurd hq (by omega)) (fun _ => ?_)
  refine r_aload_n rfl rfl ?_
  refine r_iload_n rfl rfl ?_
  refine s_iald (x := v) rfl rfl (by omega) hv ?_
  refine r_goto (tgt := 17) rfl rfl ?_
  exact s_ret (st := []) rfl rfl rfl (Nat.zero_le _) (Nat.zero_le _) (pI rfl rfl)

theorem c_at_44 {z : SZ} {sc : SC} {σ : SS} {j : Nat} {v : Int32} (hj : j < 12) (hv : σ.1 44 j = v) : Cs z sc mX9_at 0 0 [.ref 44, .int (nI j)] σ (PI v σ) := by
  refine Cs.of gmX9_at (Nat.le_of_ble_eq_true rfl) ?_
  show Ws z sc mX9_at 0 0 0 0 0 [(0, .ref 44), (1, .int (nI j))] [] (mz σ [] []) (PI v σ)
  refine r_iload_n rfl rfl ?_
  refine n_if_lt (tgt := 16) rfl rfl (by omega) (fun hq => hq.elim) (fun _ => ?_)
  refine r_iload_n rfl rfl ?_
  refine r_aload_n rfl rfl ?_
  refine s_alen rfl rfl ?_
  refine n_icmp_ge (tgt := 16) rfl rfl (by omega) (by omega) (fun hq => absurd hq (by omega)) (fun _ => ?_)
  refine r_aload_n rfl rfl ?_
  refine r_iload_n rfl rfl ?_
  refine s_iald (x := v) rfl rfl (by omega) hv ?_
  refine r_goto (tgt := 17) rfl rfl ?_
  exact s_ret (st := []) rfl rfl rfl (Nat.zero_le _) (Nat.zero_le _) (pI rfl rfl)

theorem c_at_45 {z : SZ} {sc : SC} {σ : SS} {j : Nat} {v : Int32} (hj : j < 12) (hv : σ.1 45 j = v) : Cs z sc mX9_at 0 0 [.ref 45, .int (nI j)] σ (PI v σ) := by
  refine Cs.of gmX9_at (Nat.le_of_ble_eq_true rfl) ?_
  show Ws z sc mX9_at 0 0 0 0 0 [(0, .ref 45), (1, .int (nI j))] [] (mz σ [] []) (PI v σ)
  refine r_iload_n rfl rfl ?_
  refine n_if_lt (tgt := 16) rfl rfl (by omega) (fun hq => hq.elim) (fun _ => ?_)
  refine r_iload_n rfl rfl ?_
  refine r_aload_n rfl rfl ?_
  refine s_alen rfl rfl ?_
  refine n_icmp_ge (tgt := 16) rfl rfl (by omega) (by omega) (fun hq => absurd hq (by omega)) (fun _ => ?_)
  refine r_aload_n rfl rfl ?_
  refine r_iload_n rfl rfl ?_
  refine s_iald (x := v) rfl rfl (by omega) hv ?_
  refine r_goto (tgt := 17) rfl rfl ?_
  exact s_ret (st := []) rfl rfl rfl (Nat.zero_le _) (Nat.zero_le _) (pI rfl rfl)

theorem c_at_47 {z : SZ} {sc : SC} {σ : SS} {j : Nat} {v : Int32} (hj : j < 12) (hv : σ.1 47 j = v) : Cs z sc mX9_at 0 0 [.ref 47, .int (nI j)] σ (PI v σ) := by
  refine Cs.of gmX9_at (Nat.le_of_ble_eq_true rfl) ?_
  show Ws z sc mX9_at 0 0 0 0 0 [(0, .ref 47), (1, .int (nI j))] [] (mz σ [] []) (PI v σ)
  refine r_iload_n rfl rfl ?_
  refine n_if_lt (tgt := 16) rfl rfl (by omega) (fun hq => hq.elim) (fun _ => ?_)
  refine r_iload_n rfl rfl ?_
  refine r_aload_n rfl rfl ?_
  refine s_alen rfl rfl ?_
  refine n_icmp_ge (tgt := 16) rfl rfl (by omega) (by omega) (fun hq => absurd hq (by omega)) (fun _ => ?_)
  refine r_aload_n rfl rfl ?_
  refine r_iload_n rfl rfl ?_
  refine s_iald (x := v) rfl rfl (by omega) hv ?_
  refine r_goto (tgt := 17) rfl rfl ?_
  exact s_ret (st := []) rfl rfl rfl (Nat.zero_le _) (Nat.zero_le _) (pI rfl rfl)

theorem c_at_48 {z : SZ} {sc : SC} {σ : SS} {j : Nat} {v : Int32} (hj : j < 12) (hv : σ.1 48 j = v) : Cs z sc mX9_at 0 0 [.ref 48, .int (nI j)] σ (PI v σ) := by
  refine Cs.of gmX9_at (Nat.le_of_ble_eq_true rfl) ?_
  show Ws z sc mX9_at 0 0 0 0 0 [(0, .ref 48), (1, .int (nI j))] [] (mz σ [] []) (PI v σ)
  refine r_iload_n rfl rfl ?_
  refine n_if_lt (tgt := 16) rfl rfl (by omega) (fun hq => hq.elim) (fun _ => ?_)
  refine r_iload_n rfl rfl ?_
  refine r_aload_n rfl rfl ?_
  refine s_alen rfl rfl ?_
  refine n_icmp_ge (tgt := 16) rfl rfl (by omega) (by omega) (fun hq => absurd hq (by omega)) (fun _ => ?_)
  refine r_aload_n rfl rfl ?_
  refine r_iload_n rfl rfl ?_
  refine s_iald (x := v) rfl rfl (by omega) hv ?_
  refine r_goto (tgt := 17) rfl rfl ?_
  exact s_ret (st := []) rfl rfl rfl (Nat.zero_le _) (Nat.zero_le _) (pI rfl rfl)

theorem c_at_49 {z : SZ} {sc : SC} {σ : SS} {j : Nat} {v : Int32} (hj : j < 12) (hv : σ.1 49 j = v) : Cs z sc mX9_at 0 0 [.ref 49, .int (nI j)] σ (PI v σ) := by
  refine Cs.of gmX9_at (Nat.le_of_ble_eq_true rfl) ?_
  show Ws z sc mX9_at 0 0 0 0 0 [(0, .ref 49), (1, .int (nI j))] [] (mz σ [] []) (PI v σ)
  refine r_iload_n rfl rfl ?_
  refine n_if_lt (tgt := 16) rfl rfl (by omega) (fun hq => hq.elim) (fun _ => ?_)
  refine r_iload_n rfl rfl ?_
  refine r_aload_n rfl rfl ?_
  refine s_alen rfl rfl ?_
  refine n_icmp_ge (tgt := 16) rfl rfl (by omega) (by omega) (fun hq => absurd hq (by omega)) (fun _ => ?_)
  refine r_aload_n rfl rfl ?_
  refine r_iload_n rfl rfl ?_
  refine s_iald (x := v) rfl rfl (by omega) hv ?_
  refine r_goto (tgt := 17) rfl rfl ?_
  exact s_ret (st := []) rfl rfl rfl (Nat.zero_le _) (Nat.zero_le _) (pI rfl rfl)

theorem c_asInt {z : SZ} {sc : SC} {σ : SS} {c : Bool} : Cs z sc mX9_asInt 0 0 [.int (nI (tb c))] σ (PI (nI (tb c)) σ) := by
  refine Cs.of gmX9_asInt (Nat.le_of_ble_eq_true rfl) ?_
  show Ws z sc mX9_asInt 0 0 0 0 0 [(0, .int (nI (tb c)))] [] (mz σ [] []) (PI (nI (tb c)) σ)
  have hc := tb_le c
  refine r_iload_n rfl rfl ?_
  suffices K : Ws z sc mX9_asInt 0 0 0 0 9 [(0, .int (nI (tb c)))] [.int (nI (tb c))] (mz σ [] []) (PI (nI (tb c)) σ) by
    refine n_if_eq (tgt := 8) rfl rfl (by omega) (fun h => ?_) (fun h => ?_)
    · refine n_iconst 0 rfl ?_
      exact r_top (by rw [h]) K
    · refine n_iconst 1 rfl ?_
      refine r_goto (tgt := 9) rfl rfl ?_
      exact r_top (by rw [tb_ne h]; rfl) K
  exact s_ret (st := []) rfl rfl rfl (Nat.zero_le _) (Nat.zero_le _) (pI rfl rfl)

theorem c_hasBit {z : SZ} {sc : SC} {σ : SS} {a p : Nat} (ha : a < 4096) (hp : p < 31) : Cs z sc mX9_hasBit 0 0 [.int (nI a), .int (nI p)] σ (PI (nI (tb (a.testBit p))) σ) := by
  refine Cs.of gmX9_hasBit (Nat.le_of_ble_eq_true rfl) ?_
  show Ws z sc mX9_hasBit 0 0 0 0 0 [(0, .int (nI a)), (1, .int (nI p))] [] (mz σ [] []) (PI (nI (tb (a.testBit p))) σ)
  have hc := tb_le (a.testBit p)
  refine r_iload_n rfl rfl ?_
  refine r_iload_n rfl rfl ?_
  refine r_ishr rfl ?_
  refine n_iconst 1 rfl ?_
  refine r_iand rfl ?_
  refine r_top (y := nI (tb (a.testBit p))) (bt_has ha hp) ?_
  suffices K : Ws z sc mX9_hasBit 0 0 0 0 13 [(0, .int (nI a)), (1, .int (nI p))] [.int (nI (tb (a.testBit p)))] (mz σ [] []) (PI (nI (tb (a.testBit p))) σ) by
    refine n_if_eq (tgt := 12) rfl rfl (by omega) (fun h => ?_) (fun h => ?_)
    · refine n_iconst 0 rfl ?_
      exact r_top (by rw [h]) K
    · refine n_iconst 1 rfl ?_
      refine r_goto (tgt := 13) rfl rfl ?_
      exact r_top (by rw [tb_ne h]; rfl) K
  exact s_ret (st := []) rfl rfl (nar_tb _) (Nat.zero_le _) (Nat.zero_le _) (pI rfl rfl)

theorem c_portion {z : SZ} {sc : SC} {σ : SS} {a b q : Nat} (ha : a < 2147483648) (hb : b < 2147483648) (hq : q < 2147483648) : Cs z sc mX9_portion 0 0 [.int (nI a), .int (nI b), .int (nI q)] σ (PI (nI (a * b / q)) σ) := by
  refine Cs.of gmX9_portion (Nat.le_of_ble_eq_true rfl) ?_
  show Ws z sc mX9_portion 0 0 0 0 0 [(0, .int (nI a)), (1, .int (nI b)), (2, .int (nI q))] [] (mz σ [] []) (PI (nI (a * b / q)) σ)
  have hab : a * b < 9223372036854775808 := Nat.lt_of_lt_of_le (Nat.mul_lt_mul'' ha hb) (by decide)
  refine r_iload_n rfl rfl ?_
  suffices K : Ws z sc mX9_portion 0 0 0 0 17 [(0, .int (nI a)), (1, .int (nI b)), (2, .int (nI q))] [.int (nI (a * b / q))] (mz σ [] []) (PI (nI (a * b / q)) σ) by
    refine n_if_le (tgt := 16) rfl rfl (by omega) (fun h => ?_) (fun h => ?_)
    · refine n_iconst 0 rfl ?_
      exact r_top (by rw [h, Nat.div_zero]) K
    · refine r_iload_n rfl rfl ?_
      refine n_i2l rfl (by omega) ?_
      refine r_iload_n rfl rfl ?_
      refine n_i2l rfl (by omega) ?_
      refine n_lmul rfl ?_
      refine r_iload_n rfl rfl ?_
      refine n_i2l rfl (by omega) ?_
      refine n_ldiv rfl (by omega) (by omega) (by omega) ?_
      refine n_l2i rfl ?_
      refine r_goto (tgt := 17) rfl rfl ?_
      exact K 
  exact s_ret (st := []) rfl rfl rfl (Nat.zero_le _) (Nat.zero_le _) (pI rfl rfl)

theorem c_gcd {z : SZ} {sc : SC} {σ : SS} {a b : Nat} (ha : a < 65536) (hb : b < 65536) : Cs z sc mX9_greatestCommonDivisor 0 0 [.int (nI a), .int (nI b)] σ (PI (nI (Nat.gcd a b)) σ) := by
  refine Cs.of gmX9_greatestCommonDivisor (Nat.le_of_ble_eq_true rfl) ?_
  show Ws z sc mX9_greatestCommonDivisor 0 0 0 0 0 [(0, .int (nI a)), (1, .int (nI b))] [] (mz σ [] []) (PI (nI (Nat.gcd a b)) σ)
  refine r_iload_n rfl rfl ?_
  refine r_istore_n (lv' := [(2, .int (nI a)), (0, .int (nI a)), (1, .int (nI b))]) rfl rfl (Nat.le_of_ble_eq_true rfl) rfl ?_
  refine r_iload_n rfl rfl ?_
  refine r_istore_n (lv' := [(3, .int (nI b)), (2, .int (nI a)), (0, .int (nI a)), (1, .int (nI b))]) rfl rfl (Nat.le_of_ble_eq_true rfl) rfl ?_
  refine n_iconst 0 rfl ?_
  refine r_istore (lv' := [(4, .int (nI 0)), (3, .int (nI b)), (2, .int (nI a)), (0, .int (nI a)), (1, .int (nI b))]) rfl (Nat.le_of_ble_eq_true rfl) rfl ?_
  refine r_lv (lv' := [(4, .int (nI 0)), (2, .int (nI a)), (3, .int (nI b))]) [0, 2, 1] rfl ?_
  have loop : ∀ (m9 : Nat) (i : Nat) (x y : Nat), 64 - i < m9 → (i ≤ 64) → (x < 65536) → (y < 65536) → (Nat.gcd x y = Nat.gcd a b) → (i = 0 ∨ y ≤ x) → (x * y * 2 ^ (i - 1) ≤ a * b) → Ws z sc mX9_greatestCommonDivisor 0 0 0 0 7 [(4, .int (nI i)), (2, .int (nI x)), (3, .int (nI y))] [] (mz σ [] []) (PI (nI (Nat.gcd a b)) σ) := by
    intro m9
    induction m9 with
    | zero => intro i x y hme; exact absurd hme (Nat.not_lt_zero _)
    | succ m9 ih =>
      intro i x y hme hi hx hy hg ho hp
      refine r_iload rfl rfl ?_
      refine n_bipush 64 rfl (by decide) ?_
      refine n_icmp_ge (tgt := 34) rfl rfl (by omega) (by omega) (fun h1 => ?_) (fun h1 => ?_)
      · refine r_iload_n rfl rfl ?_
        have hy0 : y = 0 := by
          apply Nat.eq_zero_of_not_pos; intro hy1
          have hx1 : 0 < x := by omega
          have h64 : i = 64 := by omega
          rw [h64] at hp
          have h1 : 1 * 2 ^ 63 ≤ x * y * 2 ^ (64 - 1) := Nat.mul_le_mul_right _ (Nat.mul_pos hx1 hy1)
          have h2 : a * b < 65536 * 65536 := Nat.mul_lt_mul'' ha hb
          omega
        exact s_ret (st := []) rfl rfl rfl (Nat.zero_le _) (Nat.zero_le _) (pI (by rw [← hg, hy0, Nat.gcd_zero_right]) rfl)
      · refine r_iload_n rfl rfl ?_
        refine n_if_le (tgt := 34) rfl rfl (by omega) (fun h2 => ?_) (fun h2 => ?_)
        · refine r_iload_n rfl rfl ?_
          exact s_ret (st := []) rfl rfl rfl (Nat.zero_le _) (Nat.zero_le _) (pI (by rw [← hg, h2, Nat.gcd_zero_right]) rfl)
        · refine r_iload_n rfl rfl ?_
          refine r_iload_n rfl rfl ?_
          refine n_irem rfl (by omega) (by omega) (by omega) ?_
          refine r_istore (lv' := [(5, .int (nI (x % y))), (4, .int (nI i)), (2, .int (nI x)), (3, .int (nI y))]) rfl (Nat.le_of_ble_eq_true rfl) rfl ?_
          refine r_iload_n rfl rfl ?_
          refine r_istore_n (lv' := [(2, .int (nI y)), (5, .int (nI (x % y))), (4, .int (nI i)), (3, .int (nI y))]) rfl rfl (Nat.le_of_ble_eq_true rfl) rfl ?_
          refine r_iload rfl rfl ?_
          refine r_istore_n (lv' := [(3, .int (nI (x % y))), (2, .int (nI y)), (5, .int (nI (x % y))), (4, .int (nI i))]) rfl rfl (Nat.le_of_ble_eq_true rfl) rfl ?_
          refine n_iinc (lv' := [(4, .int (nI (i + 1))), (3, .int (nI (x % y))), (2, .int (nI y)), (5, .int (nI (x % y)))]) 1 rfl rfl (Nat.le_of_ble_eq_true rfl) rfl ?_
          refine r_goto (tgt := 7) rfl rfl ?_
          have h3 := Nat.mod_lt x h2
          have h4 : y * (x % y) * 2 ^ (i + 1 - 1) ≤ a * b := by
            rcases ho with h0 | h0
            · rw [h0] at hp ⊢
              have h5 : y * (x % y) ≤ y * x := Nat.mul_le_mul_left y (Nat.mod_le x y)
              rw [Nat.mul_comm y x] at h5
              have h6 : x * y * 2 ^ (0 - 1) = x * y := Nat.mul_one _
              have h7 : y * (x % y) * 2 ^ (0 + 1 - 1) = y * (x % y) := Nat.mul_one _
              omega
            · by_cases hi0 : i = 0
              · rw [hi0] at hp ⊢
                have h5 : y * (x % y) ≤ y * x := Nat.mul_le_mul_left y (Nat.mod_le x y)
                rw [Nat.mul_comm y x] at h5
                have h6 : x * y * 2 ^ (0 - 1) = x * y := Nat.mul_one _
                have h7 : y * (x % y) * 2 ^ (0 + 1 - 1) = y * (x % y) := Nat.mul_one _
                omega
              · have e1 : i + 1 - 1 = (i - 1) + 1 := by omega
                rw [e1, Nat.pow_succ, Nat.mul_comm (2 ^ (i - 1)) 2, ← Nat.mul_assoc]
                refine Nat.le_trans (Nat.mul_le_mul_right _ ?_) hp
                rw [Nat.mul_assoc, Nat.mul_comm x y]
                exact Nat.mul_le_mul_left y (gcd_half h2 h0)
          refine r_lv (lv' := [(4, .int (nI (i + 1))), (2, .int (nI y)), (3, .int (nI (x % y)))]) [0, 2, 1] rfl ?_
          exact ih (i + 1) y (x % y) (by omega) (by omega) hy (by omega) (by rw [← hg, Nat.gcd_comm y, ← Nat.gcd_rec, Nat.gcd_comm]) (Or.inr (by omega)) h4
  exact loop 65 0 a b (by omega) (by omega) ha hb rfl (Or.inl rfl) (by rw [Nat.pow_zero, Nat.mul_one]; exact Nat.le_refl _)

theorem c_lcm {z : SZ} {sc : SC} {σ : SS} {a b : Nat} (ha : a < 65536) (hb : b < 65536) : Cs z sc mX9_leastCommonMultiple 0 0 [.int (nI a), .int (nI b)] σ (PI (nI (a / Nat.gcd a b * b)) σ) := by
  refine Cs.of gmX9_leastCommonMultiple (Nat.le_of_ble_eq_true rfl) ?_
  show Ws z sc mX9_leastCommonMultiple 0 0 0 0 0 [(0, .int (nI a)), (1, .int (nI b))] [] (mz σ [] []) (PI (nI (a / Nat.gcd a b * b)) σ)
  have hg : Nat.gcd a b < 65536 := by
    by_cases h : 0 < a
    · exact Nat.lt_of_le_of_lt (Nat.gcd_le_left b h) ha
    · rw [Nat.eq_zero_of_not_pos h, Nat.gcd_zero_left]; exact hb
  refine r_iload_n rfl rfl ?_
  refine r_iload_n rfl rfl ?_
  refine s_staI [.int (nI a), .int (nI b)] [] rfl lkX9_392 (c_gcd ha hb) rfl rfl (Nat.le_refl _) (Nat.le_refl _) rfl (rI (e1 := nI (Nat.gcd a b)) rfl ?_)
  refine r_istore_n (lv' := [(2, .int (nI (Nat.gcd a b))), (0, .int (nI a)), (1, .int (nI b))]) rfl rfl (Nat.le_of_ble_eq_true rfl) rfl ?_
  refine r_iload_n rfl rfl ?_
  suffices K : Ws z sc mX9_leastCommonMultiple 0 0 0 0 19 [(2, .int (nI (Nat.gcd a b))), (0, .int (nI a)), (1, .int (nI b))] [.int (nI (a / Nat.gcd a b * b))] (mz σ [] []) (PI (nI (a / Nat.gcd a b * b)) σ) by
    refine n_if_le (tgt := 18) rfl rfl (by omega) (fun h => ?_) (fun h => ?_)
    · refine n_iconst 0 rfl ?_
      exact r_top (by rw [h, Nat.div_zero, Nat.zero_mul]) K
    · refine r_iload_n rfl rfl ?_
      refine r_iload_n rfl rfl ?_
      refine n_idiv rfl (by omega) (by omega) (by omega) ?_
      refine r_iload_n rfl rfl ?_
      refine n_imul rfl ?_
      refine r_goto (tgt := 19) rfl rfl ?_
      exact K 
  exact s_ret (st := []) rfl rfl rfl (Nat.zero_le _) (Nat.zero_le _) (pI rfl rfl)

theorem c_sumOf_24 {z : SZ} {sc : SC} {σ : SS} {w : Nat → Nat} (h : ∀ i, i < 8 → σ.1 24 i = nI (w i)) : Cs z sc mX9_sumOf 0 0 [.ref 24] σ (PI (nI (sm w 8)) σ) := by
  refine Cs.of gmX9_sumOf (Nat.le_of_ble_eq_true rfl) ?_
  show Ws z sc mX9_sumOf 0 0 0 0 0 [(0, .ref 24)] [] (mz σ [] []) (PI (nI (sm w 8)) σ)
  refine n_iconst 0 rfl ?_
  refine r_istore_n (lv' := [(1, .int (nI 0)), (0, .ref 24)]) rfl rfl (Nat.le_of_ble_eq_true rfl) rfl ?_
  refine n_iconst 0 rfl ?_
  refine r_istore_n (lv' := [(2, .int (nI 0)), (1, .int (nI 0)), (0, .ref 24)]) rfl rfl (Nat.le_of_ble_eq_true rfl) rfl ?_
  refine r_lv (lv' := [(2, .int (nI 0)), (1, .int (nI 0)), (0, .ref 24)]) [0, 1, 2] rfl ?_
  have loop : ∀ (m9 : Nat) (i : Nat) , 8 - i < m9 → (i ≤ 8) → Ws z sc mX9_sumOf 0 0 0 0 4 [(2, .int (nI i)), (1, .int (nI (sm w i))), (0, .ref 24)] [] (mz σ [] []) (PI (nI (sm w 8)) σ) := by
    intro m9
    induction m9 with
    | zero => intro i  hme; exact absurd hme (Nat.not_lt_zero _)
    | succ m9 ih =>
      intro i  hme hi
      refine r_iload_n rfl rfl ?_
      refine r_aload_n rfl rfl ?_
      refine s_alen rfl rfl ?_
      refine n_icmp_ge (tgt := 22) rfl rfl (by omega) (by omega) (fun h1 => ?_) (fun h1 => ?_)
      · refine r_iload_n rfl rfl ?_
        exact s_ret (st := []) rfl rfl rfl (Nat.zero_le _) (Nat.zero_le _) (pI (by rw [show i = 8 by omega]) rfl)
      · refine r_iload_n rfl rfl ?_
        refine r_aload_n rfl rfl ?_
        refine r_iload_n rfl rfl ?_
        refine s_iald (x := nI (w i)) rfl rfl (by omega) (h _ (by omega)) ?_
        refine n_iadd rfl ?_
        refine r_istore_n (lv' := [(1, .int (nI ((sm w i) + (w i)))), (2, .int (nI i)), (0, .ref 24)]) rfl rfl (Nat.le_of_ble_eq_true rfl) rfl ?_
        refine n_iinc (lv' := [(2, .int (nI (i + 1))), (1, .int (nI ((sm w i) + (w i)))), (0, .ref 24)]) 1 rfl rfl (Nat.le_of_ble_eq_true rfl) rfl ?_
        refine r_goto (tgt := 4) rfl rfl ?_
        refine r_lv (lv' := [(2, .int (nI (i + 1))), (1, .int (nI ((sm w i) + (w i)))), (0, .ref 24)]) [0, 1, 2] rfl ?_
        exact ih (i + 1) (by omega) (by omega)
  exact loop 9 0 (by omega) (by omega)

theorem c_sumOf_32 {z : SZ} {sc : SC} {σ : SS} {w : Nat → Nat} (h : ∀ i, i < 12 → σ.1 32 i = nI (w i)) : Cs z sc mX9_sumOf 0 0 [.ref 32] σ (PI (nI (sm w 12)) σ) := by
  refine Cs.of gmX9_sumOf (Nat.le_of_ble_eq_true rfl) ?_
  show Ws z sc mX9_sumOf 0 0 0 0 0 [(0, .ref 32)] [] (mz σ [] []) (PI (nI (sm w 12)) σ)
  refine n_iconst 0 rfl ?_
  refine r_istore_n (lv' := [(1, .int (nI 0)), (0, .ref 32)]) rfl rfl (Nat.le_of_ble_eq_true rfl) rfl ?_
  refine n_iconst 0 rfl ?_
  refine r_istore_n (lv' := [(2, .int (nI 0)), (1, .int (nI 0)), (0, .ref 32)]) rfl rfl (Nat.le_of_ble_eq_true rfl) rfl ?_
  refine r_lv (lv' := [(2, .int (nI 0)), (1, .int (nI 0)), (0, .ref 32)]) [0, 1, 2] rfl ?_
  have loop : ∀ (m9 : Nat) (i : Nat) , 12 - i < m9 → (i ≤ 12) → Ws z sc mX9_sumOf 0 0 0 0 4 [(2, .int (nI i)), (1, .int (nI (sm w i))), (0, .ref 32)] [] (mz σ [] []) (PI (nI (sm w 12)) σ) := by
    intro m9
    induction m9 with
    | zero => intro i  hme; exact absurd hme (Nat.not_lt_zero _)
    | succ m9 ih =>
      intro i  hme hi
      refine r_iload_n rfl rfl ?_
      refine r_aload_n rfl rfl ?_
      refine s_alen rfl rfl ?_
      refine n_icmp_ge (tgt := 22) rfl rfl (by omega) (by omega) (fun h1 => ?_) (fun h1 => ?_)
      · refine r_iload_n rfl rfl ?_
        exact s_ret (st := []) rfl rfl rfl (Nat.zero_le _) (Nat.zero_le _) (pI (by rw [show i = 12 by omega]) rfl)
      · refine r_iload_n rfl rfl ?_
        refine r_aload_n rfl rfl ?_
        refine r_iload_n rfl rfl ?_
        refine s_iald (x := nI (w i)) rfl rfl (by omega) (h _ (by omega)) ?_
        refine n_iadd rfl ?_
        refine r_istore_n (lv' := [(1, .int (nI ((sm w i) + (w i)))), (2, .int (nI i)), (0, .ref 32)]) rfl rfl (Nat.le_of_ble_eq_true rfl) rfl ?_
        refine n_iinc (lv' := [(2, .int (nI (i + 1))), (1, .int (nI ((sm w i) + (w i)))), (0, .ref 32)]) 1 rfl rfl (Nat.le_of_ble_eq_true rfl) rfl ?_
        refine r_goto (tgt := 4) rfl rfl ?_
        refine r_lv (lv' := [(2, .int (nI (i + 1))), (1, .int (nI ((sm w i) + (w i)))), (0, .ref 32)]) [0, 1, 2] rfl ?_
        exact ih (i + 1) (by omega) (by omega)
  exact loop 13 0 (by omega) (by omega)

theorem c_sumOf_40 {z : SZ} {sc : SC} {σ : SS} {w : Nat → Nat} (h : ∀ i, i < 8 → σ.1 40 i = nI (w i)) : Cs z sc mX9_sumOf 0 0 [.ref 40] σ (PI (nI (sm w 8)) σ) := by
  refine Cs.of gmX9_sumOf (Nat.le_of_ble_eq_true rfl) ?_
  show Ws z sc mX9_sumOf 0 0 0 0 0 [(0, .ref 40)] [] (mz σ [] []) (PI (nI (sm w 8)) σ)
  refine n_iconst 0 rfl ?_
  refine r_istore_n (lv' := [(1, .int (nI 0)), (0, .ref 40)]) rfl rfl (Nat.le_of_ble_eq_true rfl) rfl ?_
  refine n_iconst 0 rfl ?_
  refine r_istore_n (lv' := [(2, .int (nI 0)), (1, .int (nI 0)), (0, .ref 40)]) rfl rfl (Nat.le_of_ble_eq_true rfl) rfl ?_
  refine r_lv (lv' := [(2, .int (nI 0)), (1, .int (nI 0)), (0, .ref 40)]) [0, 1, 2] rfl ?_
  have loop : ∀ (m9 : Nat) (i : Nat) , 8 - i < m9 → (i ≤ 8) → Ws z sc mX9_sumOf 0 0 0 0 4 [(2, .int (nI i)), (1, .int (nI (sm w i))), (0, .ref 40)] [] (mz σ [] []) (PI (nI (sm w 8)) σ) := by
    intro m9
    induction m9 with
    | zero => intro i  hme; exact absurd hme (Nat.not_lt_zero _)
    | succ m9 ih =>
      intro i  hme hi
      refine r_iload_n rfl rfl ?_
      refine r_aload_n rfl rfl ?_
      refine s_alen rfl rfl ?_
      refine n_icmp_ge (tgt := 22) rfl rfl (by omega) (by omega) (fun h1 => ?_) (fun h1 => ?_)
      · refine r_iload_n rfl rfl ?_
        exact s_ret (st := []) rfl rfl rfl (Nat.zero_le _) (Nat.zero_le _) (pI (by rw [show i = 8 by omega]) rfl)
      · refine r_iload_n rfl rfl ?_
        refine r_aload_n rfl rfl ?_
        refine r_iload_n rfl rfl ?_
        refine s_iald (x := nI (w i)) rfl rfl (by omega) (h _ (by omega)) ?_
        refine n_iadd rfl ?_
        refine r_istore_n (lv' := [(1, .int (nI ((sm w i) + (w i)))), (2, .int (nI i)), (0, .ref 40)]) rfl rfl (Nat.le_of_ble_eq_true rfl) rfl ?_
        refine n_iinc (lv' := [(2, .int (nI (i + 1))), (1, .int (nI ((sm w i) + (w i)))), (0, .ref 40)]) 1 rfl rfl (Nat.le_of_ble_eq_true rfl) rfl ?_
        refine r_goto (tgt := 4) rfl rfl ?_
        refine r_lv (lv' := [(2, .int (nI (i + 1))), (1, .int (nI ((sm w i) + (w i)))), (0, .ref 40)]) [0, 1, 2] rfl ?_
        exact ih (i + 1) (by omega) (by omega)
  exact loop 9 0 (by omega) (by omega)

theorem c_sumOf_48 {z : SZ} {sc : SC} {σ : SS} {w : Nat → Nat} (h : ∀ i, i < 12 → σ.1 48 i = nI (w i)) : Cs z sc mX9_sumOf 0 0 [.ref 48] σ (PI (nI (sm w 12)) σ) := by
  refine Cs.of gmX9_sumOf (Nat.le_of_ble_eq_true rfl) ?_
  show Ws z sc mX9_sumOf 0 0 0 0 0 [(0, .ref 48)] [] (mz σ [] []) (PI (nI (sm w 12)) σ)
  refine n_iconst 0 rfl ?_
  refine r_istore_n (lv' := [(1, .int (nI 0)), (0, .ref 48)]) rfl rfl (Nat.le_of_ble_eq_true rfl) rfl ?_
  refine n_iconst 0 rfl ?_
  refine r_istore_n (lv' := [(2, .int (nI 0)), (1, .int (nI 0)), (0, .ref 48)]) rfl rfl (Nat.le_of_ble_eq_true rfl) rfl ?_
  refine r_lv (lv' := [(2, .int (nI 0)), (1, .int (nI 0)), (0, .ref 48)]) [0, 1, 2] rfl ?_
  have loop : ∀ (m9 : Nat) (i : Nat) , 12 - i < m9 → (i ≤ 12) → Ws z sc mX9_sumOf 0 0 0 0 4 [(2, .int (nI i)), (1, .int (nI (sm w i))), (0, .ref 48)] [] (mz σ [] []) (PI (nI (sm w 12)) σ) := by
    intro m9
    induction m9 with
    | zero => intro i  hme; exact absurd hme (Nat.not_lt_zero _)
    | succ m9 ih =>
      intro i  hme hi
      refine r_iload_n rfl rfl ?_
      refine r_aload_n rfl rfl ?_
      refine s_alen rfl rfl ?_
      refine n_icmp_ge (tgt := 22) rfl rfl (by omega) (by omega) (fun h1 => ?_) (fun h1 => ?_)
      · refine r_iload_n rfl rfl ?_
        exact s_ret (st := []) rfl rfl rfl (Nat.zero_le _) (Nat.zero_le _) (pI (by rw [show i = 12 by omega]) rfl)
      · refine r_iload_n rfl rfl ?_
        refine r_aload_n rfl rfl ?_
        refine r_iload_n rfl rfl ?_
        refine s_iald (x := nI (w i)) rfl rfl (by omega) (h _ (by omega)) ?_
        refine n_iadd rfl ?_
        refine r_istore_n (lv' := [(1, .int (nI ((sm w i) + (w i)))), (2, .int (nI i)), (0, .ref 48)]) rfl rfl (Nat.le_of_ble_eq_true rfl) rfl ?_
        refine n_iinc (lv' := [(2, .int (nI (i + 1))), (1, .int (nI ((sm w i) + (w i)))), (0, .ref 48)]) 1 rfl rfl (Nat.le_of_ble_eq_true rfl) rfl ?_
        refine r_goto (tgt := 4) rfl rfl ?_
        refine r_lv (lv' := [(2, .int (nI (i + 1))), (1, .int (nI ((sm w i) + (w i)))), (0, .ref 48)]) [0, 1, 2] rfl ?_
        exact ih (i + 1) (by omega) (by omega)
  exact loop 13 0 (by omega) (by omega)

theorem c_split_24_25 {z : SZ} {sc : SC} {σ : SS} {t : Nat} {w : Nat → Nat} (ht : t < 2147483648) (h : ∀ i, i < 8 → σ.1 24 i = nI (w i)) (hw : sm w 8 < 2147483648) : Cs z sc mX9_split 0 0 [.int (nI t), .ref 24, .ref 25] σ (RV fun σ' => ∃ f, σ' = mz σ [(25, f)] [] ∧ ∀ i, i < 8 → f i = nI (sp t (sm w 8) w 8 i)) := by
  refine Cs.of gmX9_split (Nat.le_of_ble_eq_true rfl) ?_
  show Ws z sc mX9_split 0 0 0 0 0 [(0, .int (nI t)), (1, .ref 24), (2, .ref 25)] [] (mz σ [] []) (RV fun σ' => ∃ f, σ' = mz σ [(25, f)] [] ∧ ∀ i, i < 8 → f i = nI (sp t (sm w 8) w 8 i))
  have hB := bs_le t w 8
  have hT : (if (sm w 8) = 0 then 0 else t) ≤ t := by split <;> omega
  have hwi : ∀ i, i < 8 → w i < 2147483648 := fun i hi => Nat.lt_of_le_of_lt (sm_pos hi) hw
  refine r_aload_n rfl rfl ?_
  refine s_staI [.ref 24] [] rfl lkX9_395 (c_sumOf_24 h) rfl rfl (Nat.le_refl _) (Nat.le_refl _) rfl (rI (e1 := nI (sm w 8)) rfl ?_)
  refine r_istore_n (lv' := [(3, .int (nI (sm w 8))), (0, .int (nI t)), (1, .ref 24), (2, .ref 25)]) rfl rfl (Nat.le_of_ble_eq_true rfl) rfl ?_
  refine r_iload_n rfl rfl ?_
  suffices K : Ws z sc mX9_split 0 0 0 0 14 [(3, .int (nI (sm w 8))), (0, .int (nI t)), (1, .ref 24), (2, .ref 25)] [.int (nI ((if (sm w 8) = 0 then 0 else t)))] (mz σ [] []) (RV fun σ' => ∃ f, σ' = mz σ [(25, f)] [] ∧ ∀ i, i < 8 → f i = nI (sp t (sm w 8) w 8 i)) by
    refine n_if_le (tgt := 13) rfl rfl (by omega) (fun h1 => ?_) (fun h1 => ?_)
    · refine n_iconst 0 rfl ?_
      exact r_top (by rw [if_pos h1]) K
    · refine r_iload_n rfl rfl ?_
      refine r_goto (tgt := 14) rfl rfl ?_
      exact r_top (by rw [if_neg (by omega)]) K
  refine r_istore (lv' := [(4, .int (nI ((if (sm w 8) = 0 then 0 else t)))), (3, .int (nI (sm w 8))), (0, .int (nI t)), (1, .ref 24), (2, .ref 25)]) rfl (Nat.le_of_ble_eq_true rfl) rfl ?_
  refine n_iconst 0 rfl ?_
  refine r_istore (lv' := [(5, .int (nI 0)), (4, .int (nI ((if (sm w 8) = 0 then 0 else t)))), (3, .int (nI (sm w 8))), (0, .int (nI t)), (1, .ref 24), (2, .ref 25)]) rfl (Nat.le_of_ble_eq_true rfl) rfl ?_
  refine r_lv (lv' := [(5, .int (nI 0)), (4, .int (nI ((if (sm w 8) = 0 then 0 else t)))), (0, .int (nI t)), (1, .ref 24), (2, .ref 25), (3, .int (nI (sm w 8)))]) [0, 1, 3, 4, 5, 2] rfl ?_
  refine m_newI (L' := [(25, (σ.1 25))]) 25 rfl ?_
  have loop : ∀ (m9 : Nat) (i : Nat) (f : Nat → Int32), 8 - i < m9 → (i ≤ 8) → (∀ j, j < i → f j = nI (bs t (sm w 8) w j)) → Ws z sc mX9_split 0 0 0 0 19 [(5, .int (nI i)), (4, .int (nI ((if (sm w 8) = 0 then 0 else t) - sm (bs t (sm w 8) w) i))), (0, .int (nI t)), (1, .ref 24), (2, .ref 25), (3, .int (nI (sm w 8)))] [] (mz σ [(25, f)] []) (RV fun σ' => ∃ f, σ' = mz σ [(25, f)] [] ∧ ∀ i, i < 8 → f i = nI (sp t (sm w 8) w 8 i)) := by
    intro m9
    induction m9 with
    | zero => intro i f hme; exact absurd hme (Nat.not_lt_zero _)
    | succ m9 ih =>
      intro i f hme hi hf
      refine r_iload rfl rfl ?_
      refine r_aload_n rfl rfl ?_
      refine s_alen rfl rfl ?_
      refine n_icmp_ge (tgt := 61) rfl rfl (by omega) (by omega) (fun h1 => ?_) (fun h1 => ?_)
      · rw [show i = 8 by omega] at hf ⊢
        refine n_iconst 0 rfl ?_
        refine r_istore (lv' := [(5, .int (nI 0)), (4, .int (nI ((if (sm w 8) = 0 then 0 else t) - sm (bs t (sm w 8) w) 8))), (0, .int (nI t)), (1, .ref 24), (2, .ref 25), (3, .int (nI (sm w 8)))]) rfl (Nat.le_of_ble_eq_true rfl) rfl ?_
        refine r_lv (lv' := [(5, .int (nI 0)), (4, .int (nI ((if (sm w 8) = 0 then 0 else t) - sm (bs t (sm w 8) w) 8))), (0, .int (nI t)), (1, .ref 24), (2, .ref 25), (3, .int (nI (sm w 8)))]) [0, 1, 2, 3, 4, 5] rfl ?_
        have loop2 : ∀ (m9_2 : Nat) (i2 : Nat) (g : Nat → Int32), 8 - i2 < m9_2 → (i2 ≤ 8) → (∀ j, j < 8 → g j = nI (if j < i2 then sp t (sm w 8) w 8 j else bs t (sm w 8) w j)) → Ws z sc mX9_split 0 0 0 0 64 [(5, .int (nI i2)), (4, .int (nI (rm t (sm w 8) w 8 i2))), (0, .int (nI t)), (1, .ref 24), (2, .ref 25), (3, .int (nI (sm w 8)))] [] (mz σ [(25, g)] []) (RV fun σ' => ∃ f, σ' = mz σ [(25, f)] [] ∧ ∀ i, i < 8 → f i = nI (sp t (sm w 8) w 8 i)) := by
          intro m9_2
          induction m9_2 with
          | zero => intro i2 g hme; exact absurd hme (Nat.not_lt_zero _)
          | succ m9_2 ih2 =>
            intro i2 g hme hi2 hg
            have hR := rm_le t (sm w 8) w 8 i2
            refine r_iload rfl rfl ?_
            refine r_aload_n rfl rfl ?_
            refine s_alen rfl rfl ?_
            refine n_icmp_ge (tgt := 107) rfl rfl (by omega) (by omega) (fun h2 => ?_) (fun h2 => ?_)
            · exact s_vret (st := []) rfl rfl (Nat.zero_le _) (Nat.zero_le _) (⟨rfl, g, rfl, fun j hj => by rw [hg j hj, if_pos (by omega)]⟩)
            · have hw2 := hwi i2 (by omega)
              refine r_iload rfl rfl ?_
              refine r_aload_n rfl rfl ?_
              refine s_alen rfl rfl ?_
              refine n_icmp_ge (tgt := 107) rfl rfl (by omega) (by omega) (fun hq => absurd hq (by omega)) (fun _ => ?_)
              refine r_iload rfl rfl ?_
              refine n_if_le (tgt := 101) rfl rfl (by omega) (fun h3 => ?_) (fun h3 => ?_)
              · refine n_iinc (lv' := [(5, .int (nI (i2 + 1))), (4, .int (nI (rm t (sm w 8) w 8 i2))), (0, .int (nI t)), (1, .ref 24), (2, .ref 25), (3, .int (nI (sm w 8)))]) 1 rfl rfl (Nat.le_of_ble_eq_true rfl) rfl ?_
                refine r_goto (tgt := 64) rfl rfl ?_
                have hz : ¬ (0 < rm t (sm w 8) w 8 i2 ∧ 0 < w i2) := by omega
                have e1 : rm t (sm w 8) w 8 (i2 + 1) = rm t (sm w 8) w 8 i2 := if_neg hz
                have e2 : sp t (sm w 8) w 8 i2 = bs t (sm w 8) w i2 := by show bs t (sm w 8) w i2 + tb (decide _) = _; rw [decide_eq_false hz]; rfl
                rw [← e1]
                refine r_lv (lv' := [(5, .int (nI (i2 + 1))), (4, .int (nI (rm t (sm w 8) w 8 (i2 + 1)))), (0, .int (nI t)), (1, .ref 24), (2, .ref 25), (3, .int (nI (sm w 8)))]) [0, 1, 2, 3, 4, 5] rfl ?_
                exact ih2 (i2 + 1) g (by omega) (by omega) (fun j hj => by rw [hg j hj, ifs_e e2 j])
              · refine r_aload_n rfl rfl ?_
                refine r_iload rfl rfl ?_
                refine s_iald (x := nI (w i2)) rfl rfl (by omega) (h _ (by omega)) ?_
                refine n_if_le (tgt := 101) rfl rfl (by omega) (fun h4 => ?_) (fun h4 => ?_)
                · refine n_iinc (lv' := [(5, .int (nI (i2 + 1))), (4, .int (nI (rm t (sm w 8) w 8 i2))), (0, .int (nI t)), (1, .ref 24), (2, .ref 25), (3, .int (nI (sm w 8)))]) 1 rfl rfl (Nat.le_of_ble_eq_true rfl) rfl ?_
                  refine r_goto (tgt := 64) rfl rfl ?_
                  have hz : ¬ (0 < rm t (sm w 8) w 8 i2 ∧ 0 < w i2) := by omega
                  have e1 : rm t (sm w 8) w 8 (i2 + 1) = rm t (sm w 8) w 8 i2 := if_neg hz
                  have e2 : sp t (sm w 8) w 8 i2 = bs t (sm w 8) w i2 := by show bs t (sm w 8) w i2 + tb (decide _) = _; rw [decide_eq_false hz]; rfl
                  rw [← e1]
                  refine r_lv (lv' := [(5, .int (nI (i2 + 1))), (4, .int (nI (rm t (sm w 8) w 8 (i2 + 1)))), (0, .int (nI t)), (1, .ref 24), (2, .ref 25), (3, .int (nI (sm w 8)))]) [0, 1, 2, 3, 4, 5] rfl ?_
                  exact ih2 (i2 + 1) g (by omega) (by omega) (fun j hj => by rw [hg j hj, ifs_e e2 j])
                · have hz : 0 < rm t (sm w 8) w 8 i2 ∧ 0 < w i2 := by omega
                  have e1 : rm t (sm w 8) w 8 (i2 + 1) = rm t (sm w 8) w 8 i2 - 1 := if_pos hz
                  have e2 : sp t (sm w 8) w 8 i2 = bs t (sm w 8) w i2 + 1 := by show bs t (sm w 8) w i2 + tb (decide _) = _; rw [decide_eq_true hz]; rfl
                  refine r_aload_n rfl rfl ?_
                  refine r_iload rfl rfl ?_
                  refine r_dup2 rfl rfl rfl ?_
                  refine s_iald (x := nI (bs t (sm w 8) w i2)) rfl rfl (by omega) (by have := hg i2 (by omega); rw [if_neg (Nat.lt_irrefl _)] at this; exact this) ?_
                  refine n_iconst 1 rfl ?_
                  refine n_iadd rfl ?_
                  refine m_iast (L' := [(25, (aup g i2 (nI ((bs t (sm w 8) w i2) + 1))))]) rfl rfl (by omega) rfl ?_
                  have e3 : rm t (sm w 8) w 8 i2 = rm t (sm w 8) w 8 (i2 + 1) + 1 := by omega
                  rw [e3]
                  refine n_iincD (lv' := [(4, .int (nI (rm t (sm w 8) w 8 (i2 + 1)))), (5, .int (nI i2)), (0, .int (nI t)), (1, .ref 24), (2, .ref 25), (3, .int (nI (sm w 8)))]) rfl rfl (Nat.le_of_ble_eq_true rfl) rfl ?_
                  refine n_iinc (lv' := [(5, .int (nI (i2 + 1))), (4, .int (nI (rm t (sm w 8) w 8 (i2 + 1)))), (0, .int (nI t)), (1, .ref 24), (2, .ref 25), (3, .int (nI (sm w 8)))]) 1 rfl rfl (Nat.le_of_ble_eq_true rfl) rfl ?_
                  refine r_goto (tgt := 64) rfl rfl ?_
                  refine r_lv (lv' := [(5, .int (nI (i2 + 1))), (4, .int (nI (rm t (sm w 8) w 8 (i2 + 1)))), (0, .int (nI t)), (1, .ref 24), (2, .ref 25), (3, .int (nI (sm w 8)))]) [0, 1, 2, 3, 4, 5] rfl ?_
                  exact ih2 (i2 + 1) _ (by omega) (by omega) (aup_all hg (by rw [ifs_s, e2]) (fun j _ q => by rw [ifs_n q]))
        exact loop2 9 0 f (by omega) (by omega) (fun j hj => by rw [if_neg (by omega)]; exact hf j hj)
      · refine r_iload rfl rfl ?_
        refine r_aload_n rfl rfl ?_
        refine s_alen rfl rfl ?_
        refine n_icmp_ge (tgt := 61) rfl rfl (by omega) (by omega) (fun hq => absurd hq (by omega)) (fun _ => ?_)
        refine r_aload_n rfl rfl ?_
        refine r_iload rfl rfl ?_
        refine r_iload_n rfl rfl ?_
        refine r_aload_n rfl rfl ?_
        refine r_iload rfl rfl ?_
        refine s_iald (x := nI (w i)) rfl rfl (by omega) (h _ (by omega)) ?_
        refine r_iload_n rfl rfl ?_
        have hwq := hwi i (by omega)
        have hBi : sm (bs t (sm w 8) w) (i + 1) = sm (bs t (sm w 8) w) i + bs t (sm w 8) w i := rfl
        have hBm := sm_mono (f := bs t (sm w 8) w) (show i + 1 ≤ 8 by omega)
        refine s_staI [.int (nI t), .int (nI (w i)), .int (nI (sm w 8))] [.int (nI i), .ref 25] rfl lkX9_399 (c_portion (by omega) hwq hw) rfl rfl (Nat.le_refl _) (Nat.le_refl _) rfl (rI (e1 := nI (bs t (sm w 8) w i)) rfl ?_)
        refine m_iast (L' := [(25, (aup f i (nI (bs t (sm w 8) w i))))]) rfl rfl (by omega) rfl ?_
        refine r_iload rfl rfl ?_
        refine r_aload_n rfl rfl ?_
        refine r_iload rfl rfl ?_
        refine s_iald (x := nI (bs t (sm w 8) w i)) rfl rfl (by omega) (aup_s _ _ _) ?_
        refine n_isub rfl (by omega) ?_
        refine r_istore (lv' := [(4, .int (nI (((if (sm w 8) = 0 then 0 else t) - sm (bs t (sm w 8) w) i) - (bs t (sm w 8) w i)))), (5, .int (nI i)), (0, .int (nI t)), (1, .ref 24), (2, .ref 25), (3, .int (nI (sm w 8)))]) rfl (Nat.le_of_ble_eq_true rfl) rfl ?_
        refine n_iinc (lv' := [(5, .int (nI (i + 1))), (4, .int (nI (((if (sm w 8) = 0 then 0 else t) - sm (bs t (sm w 8) w) i) - (bs t (sm w 8) w i)))), (0, .int (nI t)), (1, .ref 24), (2, .ref 25), (3, .int (nI (sm w 8)))]) 1 rfl rfl (Nat.le_of_ble_eq_true rfl) rfl ?_
        refine r_goto (tgt := 19) rfl rfl ?_
        rw [show (if (sm w 8) = 0 then 0 else t) - sm (bs t (sm w 8) w) i - bs t (sm w 8) w i = (if (sm w 8) = 0 then 0 else t) - sm (bs t (sm w 8) w) (i + 1) by omega]
        refine r_lv (lv' := [(5, .int (nI (i + 1))), (4, .int (nI ((if (sm w 8) = 0 then 0 else t) - sm (bs t (sm w 8) w) (i + 1)))), (0, .int (nI t)), (1, .ref 24), (2, .ref 25), (3, .int (nI (sm w 8)))]) [0, 1, 2, 3, 4, 5] rfl ?_
        exact ih (i + 1) _ (by omega) (by omega) (aup_lt hf rfl)
  exact loop 9 0 _ (by omega) (by omega) (fun j hj => absurd hj (Nat.not_lt_zero _))

theorem c_split_24_23 {z : SZ} {sc : SC} {σ : SS} {t : Nat} {w : Nat → Nat} (ht : t < 2147483648) (h : ∀ i, i < 8 → σ.1 24 i = nI (w i)) (hw : sm w 8 < 2147483648) : Cs z sc mX9_split 0 0 [.int (nI t), .ref 24, .ref 23] σ (RV fun σ' => ∃ f, σ' = mz σ [(23, f)] [] ∧ ∀ i, i < 8 → f i = nI (sp t (sm w 8) w 8 i)) := by
  refine Cs.of gmX9_split (Nat.le_of_ble_eq_true rfl) ?_
  show Ws z sc mX9_split 0 0 0 0 0 [(0, .int (nI t)), (1, .ref 24), (2, .ref 23)] [] (mz σ [] []) (RV fun σ' => ∃ f, σ' = mz σ [(23, f)] [] ∧ ∀ i, i < 8 → f i = nI (sp t (sm w 8) w 8 i))
  have hB := bs_le t w 8
  have hT : (if (sm w 8) = 0 then 0 else t) ≤ t := by split <;> omega
  have hwi : ∀ i, i < 8 → w i < 2147483648 := fun i hi => Nat.lt_of_le_of_lt (sm_pos hi) hw
  refine r_aload_n rfl rfl ?_
  refine s_staI [.ref 24] [] rfl lkX9_395 (c_sumOf_24 h) rfl rfl (Nat.le_refl _) (Nat.le_refl _) rfl (rI (e1 := nI (sm w 8)) rfl ?_)
  refine r_istore_n (lv' := [(3, .int (nI (sm w 8))), (0, .int (nI t)), (1, .ref 24), (2, .ref 23)]) rfl rfl (Nat.le_of_ble_eq_true rfl) rfl ?_
  refine r_iload_n rfl rfl ?_
  suffices K : Ws z sc mX9_split 0 0 0 0 14 [(3, .int (nI (sm w 8))), (0, .int (nI t)), (1, .ref 24), (2, .ref 23)] [.int (nI ((if (sm w 8) = 0 then 0 else t)))] (mz σ [] []) (RV fun σ' => ∃ f, σ' = mz σ [(23, f)] [] ∧ ∀ i, i < 8 → f i = nI (sp t (sm w 8) w 8 i)) by
    refine n_if_le (tgt := 13) rfl rfl (by omega) (fun h1 => ?_) (fun h1 => ?_)
    · refine n_iconst 0 rfl ?_
      exact r_top (by rw [if_pos h1]) K
    · refine r_iload_n rfl rfl ?_
      refine r_goto (tgt := 14) rfl rfl ?_
      exact r_top (by rw [if_neg (by omega)]) K
  refine r_istore (lv' := [(4, .int (nI ((if (sm w 8) = 0 then 0 else t)))), (3, .int (nI (sm w 8))), (0, .int (nI t)), (1, .ref 24), (2, .ref 23)]) rfl (Nat.le_of_ble_eq_true rfl) rfl ?_
  refine n_iconst 0 rfl ?_
  refine r_istore (lv' := [(5, .int (nI 0)), (4, .int (nI ((if (sm w 8) = 0 then 0 else t)))), (3, .int (nI (sm w 8))), (0, .int (nI t)), (1, .ref 24), (2, .ref 23)]) rfl (Nat.le_of_ble_eq_true rfl) rfl ?_
  refine r_lv (lv' := [(5, .int (nI 0)), (4, .int (nI ((if (sm w 8) = 0 then 0 else t)))), (0, .int (nI t)), (1, .ref 24), (2, .ref 23), (3, .int (nI (sm w 8)))]) [0, 1, 3, 4, 5, 2] rfl ?_
  refine m_newI (L' := [(23, (σ.1 23))]) 23 rfl ?_
  have loop : ∀ (m9 : Nat) (i : Nat) (f : Nat → Int32), 8 - i < m9 → (i ≤ 8) → (∀ j, j < i → f j = nI (bs t (sm w 8) w j)) → Ws z sc mX9_split 0 0 0 0 19 [(5, .int (nI i)), (4, .int (nI ((if (sm w 8) = 0 then 0 else t) - sm (bs t (sm w 8) w) i))), (0, .int (nI t)), (1, .ref 24), (2, .ref 23), (3, .int (nI (sm w 8)))] [] (mz σ [(23, f)] []) (RV fun σ' => ∃ f, σ' = mz σ [(23, f)] [] ∧ ∀ i, i < 8 → f i = nI (sp t (sm w 8) w 8 i)) := by
    intro m9
    induction m9 with
    | zero => intro i f hme; exact absurd hme (Nat.not_lt_zero _)
    | succ m9 ih =>
      intro i f hme hi hf
      refine r_iload rfl rfl ?_
      refine r_aload_n rfl rfl ?_
      refine s_alen rfl rfl ?_
      refine n_icmp_ge (tgt := 61) rfl rfl (by omega) (by omega) (fun h1 => ?_) (fun h1 => ?_)
      · rw [show i = 8 by omega] at hf ⊢
        refine n_iconst 0 rfl ?_
        refine r_istore (lv' := [(5, .int (nI 0)), (4, .int (nI ((if (sm w 8) = 0 then 0 else t) - sm (bs t (sm w 8) w) 8))), (0, .int (nI t)), (1, .ref 24), (2, .ref 23), (3, .int (nI (sm w 8)))]) rfl (Nat.le_of_ble_eq_true rfl) rfl ?_
        refine r_lv (lv' := [(5, .int (nI 0)), (4, .int (nI ((if (sm w 8) = 0 then 0 else t) - sm (bs t (sm w 8) w) 8))), (0, .int (nI t)), (1, .ref 24), (2, .ref 23), (3, .int (nI (sm w 8)))]) [0, 1, 2, 3, 4, 5] rfl ?_
        have loop2 : ∀ (m9_2 : Nat) (i2 : Nat) (g : Nat → Int32), 8 - i2 < m9_2 → (i2 ≤ 8) → (∀ j, j < 8 → g j = nI (if j < i2 then sp t (sm w 8) w 8 j else bs t (sm w 8) w j)) → Ws z sc mX9_split 0 0 0 0 64 [(5, .int (nI i2)), (4, .int (nI (rm t (sm w 8) w 8 i2))), (0, .int (nI t)), (1, .ref 24), (2, .ref 23), (3, .int (nI (sm w 8)))] [] (mz σ [(23, g)] []) (RV fun σ' => ∃ f, σ' = mz σ [(23, f)] [] ∧ ∀ i, i < 8 → f i = nI (sp t (sm w 8) w 8 i)) := by
          intro m9_2
          induction m9_2 with
          | zero => intro i2 g hme; exact absurd hme (Nat.not_lt_zero _)
          | succ m9_2 ih2 =>
            intro i2 g hme hi2 hg
            have hR := rm_le t (sm w 8) w 8 i2
            refine r_iload rfl rfl ?_
            refine r_aload_n rfl rfl ?_
            refine s_alen rfl rfl ?_
            refine n_icmp_ge (tgt := 107) rfl rfl (by omega) (by omega) (fun h2 => ?_) (fun h2 => ?_)
            · exact s_vret (st := []) rfl rfl (Nat.zero_le _) (Nat.zero_le _) (⟨rfl, g, rfl, fun j hj => by rw [hg j hj, if_pos (by omega)]⟩)
            · have hw2 := hwi i2 (by omega)
              refine r_iload rfl rfl ?_
              refine r_aload_n rfl rfl ?_
              refine s_alen rfl rfl ?_
              refine n_icmp_ge (tgt := 107) rfl rfl (by omega) (by omega) (fun hq => absurd hq (by omega)) (fun _ => ?_)
              refine r_iload rfl rfl ?_
              refine n_if_le (tgt := 101) rfl rfl (by omega) (fun h3 => ?_) (fun h3 => ?_)
              · refine n_iinc (lv' := [(5, .int (nI (i2 + 1))), (4, .int (nI (rm t (sm w 8) w 8 i2))), (0, .int (nI t)), (1, .ref 24), (2, .ref 23), (3, .int (nI (sm w 8)))]) 1 rfl rfl (Nat.le_of_ble_eq_true rfl) rfl ?_
                refine r_goto (tgt := 64) rfl rfl ?_
                have hz : ¬ (0 < rm t (sm w 8) w 8 i2 ∧ 0 < w i2) := by omega
                have e1 : rm t (sm w 8) w 8 (i2 + 1) = rm t (sm w 8) w 8 i2 := if_neg hz
                have e2 : sp t (sm w 8) w 8 i2 = bs t (sm w 8) w i2 := by show bs t (sm w 8) w i2 + tb (decide _) = _; rw [decide_eq_false hz]; rfl
                rw [← e1]
                refine r_lv (lv' := [(5, .int (nI (i2 + 1))), (4, .int (nI (rm t (sm w 8) w 8 (i2 + 1)))), (0, .int (nI t)), (1, .ref 24), (2, .ref 23), (3, .int (nI (sm w 8)))]) [0, 1, 2, 3, 4, 5] rfl ?_
                exact ih2 (i2 + 1) g (by omega) (by omega) (fun j hj => by rw [hg j hj, ifs_e e2 j])
              · refine r_aload_n rfl rfl ?_
                refine r_iload rfl rfl ?_
                refine s_iald (x := nI (w i2)) rfl rfl (by omega) (h _ (by omega)) ?_
                refine n_if_le (tgt := 101) rfl rfl (by omega) (fun h4 => ?_) (fun h4 => ?_)
                · refine n_iinc (lv' := [(5, .int (nI (i2 + 1))), (4, .int (nI (rm t (sm w 8) w 8 i2))), (0, .int (nI t)), (1, .ref 24), (2, .ref 23), (3, .int (nI (sm w 8)))]) 1 rfl rfl (Nat.le_of_ble_eq_true rfl) rfl ?_
                  refine r_goto (tgt := 64) rfl rfl ?_
                  have hz : ¬ (0 < rm t (sm w 8) w 8 i2 ∧ 0 < w i2) := by omega
                  have e1 : rm t (sm w 8) w 8 (i2 + 1) = rm t (sm w 8) w 8 i2 := if_neg hz
                  have e2 : sp t (sm w 8) w 8 i2 = bs t (sm w 8) w i2 := by show bs t (sm w 8) w i2 + tb (decide _) = _; rw [decide_eq_false hz]; rfl
                  rw [← e1]
                  refine r_lv (lv' := [(5, .int (nI (i2 + 1))), (4, .int (nI (rm t (sm w 8) w 8 (i2 + 1)))), (0, .int (nI t)), (1, .ref 24), (2, .ref 23), (3, .int (nI (sm w 8)))]) [0, 1, 2, 3, 4, 5] rfl ?_
                  exact ih2 (i2 + 1) g (by omega) (by omega) (fun j hj => by rw [hg j hj, ifs_e e2 j])
                · have hz : 0 < rm t (sm w 8) w 8 i2 ∧ 0 < w i2 := by omega
                  have e1 : rm t (sm w 8) w 8 (i2 + 1) = rm t (sm w 8) w 8 i2 - 1 := if_pos hz
                  have e2 : sp t (sm w 8) w 8 i2 = bs t (sm w 8) w i2 + 1 := by show bs t (sm w 8) w i2 + tb (decide _) = _; rw [decide_eq_true hz]; rfl
                  refine r_aload_n rfl rfl ?_
                  refine r_iload rfl rfl ?_
                  refine r_dup2 rfl rfl rfl ?_
                  refine s_iald (x := nI (bs t (sm w 8) w i2)) rfl rfl (by omega) (by have := hg i2 (by omega); rw [if_neg (Nat.lt_irrefl _)] at this; exact this) ?_
                  refine n_iconst 1 rfl ?_
                  refine n_iadd rfl ?_
                  refine m_iast (L' := [(23, (aup g i2 (nI ((bs t (sm w 8) w i2) + 1))))]) rfl rfl (by omega) rfl ?_
                  have e3 : rm t (sm w 8) w 8 i2 = rm t (sm w 8) w 8 (i2 + 1) + 1 := by omega
                  rw [e3]
                  refine n_iincD (lv' := [(4, .int (nI (rm t (sm w 8) w 8 (i2 + 1)))), (5, .int (nI i2)), (0, .int (nI t)), (1, .ref 24), (2, .ref 23), (3, .int (nI (sm w 8)))]) rfl rfl (Nat.le_of_ble_eq_true rfl) rfl ?_
                  refine n_iinc (lv' := [(5, .int (nI (i2 + 1))), (4, .int (nI (rm t (sm w 8) w 8 (i2 + 1)))), (0, .int (nI t)), (1, .ref 24), (2, .ref 23), (3, .int (nI (sm w 8)))]) 1 rfl rfl (Nat.le_of_ble_eq_true rfl) rfl ?_
                  refine r_goto (tgt := 64) rfl rfl ?_
                  refine r_lv (lv' := [(5, .int (nI (i2 + 1))), (4, .int (nI (rm t (sm w 8) w 8 (i2 + 1)))), (0, .int (nI t)), (1, .ref 24), (2, .ref 23), (3, .int (nI (sm w 8)))]) [0, 1, 2, 3, 4, 5] rfl ?_
                  exact ih2 (i2 + 1) _ (by omega) (by omega) (aup_all hg (by rw [ifs_s, e2]) (fun j _ q => by rw [ifs_n q]))
        exact loop2 9 0 f (by omega) (by omega) (fun j hj => by rw [if_neg (by omega)]; exact hf j hj)
      · refine r_iload rfl rfl ?_
        refine r_aload_n rfl rfl ?_
        refine s_alen rfl rfl ?_
        refine n_icmp_ge (tgt := 61) rfl rfl (by omega) (by omega) (fun hq => absurd hq (by omega)) (fun _ => ?_)
        refine r_aload_n rfl rfl ?_
        refine r_iload rfl rfl ?_
        refine r_iload_n rfl rfl ?_
        refine r_aload_n rfl rfl ?_
        refine r_iload rfl rfl ?_
        refine s_iald (x := nI (w i)) rfl rfl (by omega) (h _ (by omega)) ?_
        refine r_iload_n rfl rfl ?_
        have hwq := hwi i (by omega)
        have hBi : sm (bs t (sm w 8) w) (i + 1) = sm (bs t (sm w 8) w) i + bs t (sm w 8) w i := rfl
        have hBm := sm_mono (f := bs t (sm w 8) w) (show i + 1 ≤ 8 by omega)
        refine s_staI [.int (nI t), .int (nI (w i)), .int (nI (sm w 8))] [.int (nI i), .ref 23] rfl lkX9_399 (c_portion (by omega) hwq hw) rfl rfl (Nat.le_refl _) (Nat.le_refl _) rfl (rI (e1 := nI (bs t (sm w 8) w i)) rfl ?_)
        refine m_iast (L' := [(23, (aup f i (nI (bs t (sm w 8) w i))))]) rfl rfl (by omega) rfl ?_
        refine r_iload rfl rfl ?_
        refine r_aload_n rfl rfl ?_
        refine r_iload rfl rfl ?_
        refine s_iald (x := nI (bs t (sm w 8) w i)) rfl rfl (by omega) (aup_s _ _ _) ?_
        refine n_isub rfl (by omega) ?_
        refine r_istore (lv' := [(4, .int (nI (((if (sm w 8) = 0 then 0 else t) - sm (bs t (sm w 8) w) i) - (bs t (sm w 8) w i)))), (5, .int (nI i)), (0, .int (nI t)), (1, .ref 24), (2, .ref 23), (3, .int (nI (sm w 8)))]) rfl (Nat.le_of_ble_eq_true rfl) rfl ?_
        refine n_iinc (lv' := [(5, .int (nI (i + 1))), (4, .int (nI (((if (sm w 8) = 0 then 0 else t) - sm (bs t (sm w 8) w) i) - (bs t (sm w 8) w i)))), (0, .int (nI t)), (1, .ref 24), (2, .ref 23), (3, .int (nI (sm w 8)))]) 1 rfl rfl (Nat.le_of_ble_eq_true rfl) rfl ?_
        refine r_goto (tgt := 19) rfl rfl ?_
        rw [show (if (sm w 8) = 0 then 0 else t) - sm (bs t (sm w 8) w) i - bs t (sm w 8) w i = (if (sm w 8) = 0 then 0 else t) - sm (bs t (sm w 8) w) (i + 1) by omega]
        refine r_lv (lv' := [(5, .int (nI (i + 1))), (4, .int (nI ((if (sm w 8) = 0 then 0 else t) - sm (bs t (sm w 8) w) (i + 1)))), (0, .int (nI t)), (1, .ref 24), (2, .ref 23), (3, .int (nI (sm w 8)))]) [0, 1, 2, 3, 4, 5] rfl ?_
        exact ih (i + 1) _ (by omega) (by omega) (aup_lt hf rfl)
  exact loop 9 0 _ (by omega) (by omega) (fun j hj => absurd hj (Nat.not_lt_zero _))

theorem c_split_32_33 {z : SZ} {sc : SC} {σ : SS} {t : Nat} {w : Nat → Nat} (ht : t < 2147483648) (h : ∀ i, i < 12 → σ.1 32 i = nI (w i)) (hw : sm w 12 < 2147483648) : Cs z sc mX9_split 0 0 [.int (nI t), .ref 32, .ref 33] σ (RV fun σ' => ∃ f, σ' = mz σ [(33, f)] [] ∧ ∀ i, i < 12 → f i = nI (sp t (sm w 12) w 12 i)) := by
  refine Cs.of gmX9_split (Nat.le_of_ble_eq_true rfl) ?_
  show Ws z sc mX9_split 0 0 0 0 0 [(0, .int (nI t)), (1, .ref 32), (2, .ref 33)] [] (mz σ [] []) (RV fun σ' => ∃ f, σ' = mz σ [(33, f)] [] ∧ ∀ i, i < 12 → f i = nI (sp t (sm w 12) w 12 i))
  have hB := bs_le t w 12
  have hT : (if (sm w 12) = 0 then 0 else t) ≤ t := by split <;> omega
  have hwi : ∀ i, i < 12 → w i < 2147483648 := fun i hi => Nat.lt_of_le_of_lt (sm_pos hi) hw
  refine r_aload_n rfl rfl ?_
  refine s_staI [.ref 32] [] rfl lkX9_395 (c_sumOf_32 h) rfl rfl (Nat.le_refl _) (Nat.le_refl _) rfl (rI (e1 := nI (sm w 12)) rfl ?_)
  refine r_istore_n (lv' := [(3, .int (nI (sm w 12))), (0, .int (nI t)), (1, .ref 32), (2, .ref 33)]) rfl rfl (Nat.le_of_ble_eq_true rfl) rfl ?_
  refine r_iload_n rfl rfl ?_
  suffices K : Ws z sc mX9_split 0 0 0 0 14 [(3, .int (nI (sm w 12))), (0, .int (nI t)), (1, .ref 32), (2, .ref 33)] [.int (nI ((if (sm w 12) = 0 then 0 else t)))] (mz σ [] []) (RV fun σ' => ∃ f, σ' = mz σ [(33, f)] [] ∧ ∀ i, i < 12 → f i = nI (sp t (sm w 12) w 12 i)) by
    refine n_if_le (tgt := 13) rfl rfl (by omega) (fun h1 => ?_) (fun h1 => ?_)
    · refine n_iconst 0 rfl ?_
      exact r_top (by rw [if_pos h1]) K
    · refine r_iload_n rfl rfl ?_
      refine r_goto (tgt := 14) rfl rfl ?_
      exact r_top (by rw [if_neg (by omega)]) K
  refine r_istore (lv' := [(4, .int (nI ((if (sm w 12) = 0 then 0 else t)))), (3, .int (nI (sm w 12))), (0, .int (nI t)), (1, .ref 32), (2, .ref 33)]) rfl (Nat.le_of_ble_eq_true rfl) rfl ?_
  refine n_iconst 0 rfl ?_
  refine r_istore (lv' := [(5, .int (nI 0)), (4, .int (nI ((if (sm w 12) = 0 then 0 else t)))), (3, .int (nI (sm w 12))), (0, .int (nI t)), (1, .ref 32), (2, .ref 33)]) rfl (Nat.le_of_ble_eq_true rfl) rfl ?_
  refine r_lv (lv' := [(5, .int (nI 0)), (4, .int (nI ((if (sm w 12) = 0 then 0 else t)))), (0, .int (nI t)), (1, .ref 32), (2, .ref 33), (3, .int (nI (sm w 12)))]) [0, 1, 3, 4, 5, 2] rfl ?_
  refine m_newI (L' := [(33, (σ.1 33))]) 33 rfl ?_
  have loop : ∀ (m9 : Nat) (i : Nat) (f : Nat → Int32), 12 - i < m9 → (i ≤ 12) → (∀ j, j < i → f j = nI (bs t (sm w 12) w j)) → Ws z sc mX9_split 0 0 0 0 19 [(5, .int (nI i)), (4, .int (nI ((if (sm w 12) = 0 then 0 else t) - sm (bs t (sm w 12) w) i))), (0, .int (nI t)), (1, .ref 32), (2, .ref 33), (3, .int (nI (sm w 12)))] [] (mz σ [(33, f)] []) (RV fun σ' => ∃ f, σ' = mz σ [(33, f)] [] ∧ ∀ i, i < 12 → f i = nI (sp t (sm w 12) w 12 i)) := by
    intro m9
    induction m9 with
    | zero => intro i f hme; exact absurd hme (Nat.not_lt_zero _)
    | succ m9 ih =>
      intro i f hme hi hf
      refine r_iload rfl rfl ?_
      refine r_aload_n rfl rfl ?_
      refine s_alen rfl rfl ?_
      refine n_icmp_ge (tgt := 61) rfl rfl (by omega) (by omega) (fun h1 => ?_) (fun h1 => ?_)
      · rw [show i = 12 by omega] at hf ⊢
        refine n_iconst 0 rfl ?_
        refine r_istore (lv' := [(5, .int (nI 0)), (4, .int (nI ((if (sm w 12) = 0 then 0 else t) - sm (bs t (sm w 12) w) 12))), (0, .int (nI t)), (1, .ref 32), (2, .ref 33), (3, .int (nI (sm w 12)))]) rfl (Nat.le_of_ble_eq_true rfl) rfl ?_
        refine r_lv (lv' := [(5, .int (nI 0)), (4, .int (nI ((if (sm w 12) = 0 then 0 else t) - sm (bs t (sm w 12) w) 12))), (0, .int (nI t)), (1, .ref 32), (2, .ref 33), (3, .int (nI (sm w 12)))]) [0, 1, 2, 3, 4, 5] rfl ?_
        have loop2 : ∀ (m9_2 : Nat) (i2 : Nat) (g : Nat → Int32), 12 - i2 < m9_2 → (i2 ≤ 12) → (∀ j, j < 12 → g j = nI (if j < i2 then sp t (sm w 12) w 12 j else bs t (sm w 12) w j)) → Ws z sc mX9_split 0 0 0 0 64 [(5, .int (nI i2)), (4, .int (nI (rm t (sm w 12) w 12 i2))), (0, .int (nI t)), (1, .ref 32), (2, .ref 33), (3, .int (nI (sm w 12)))] [] (mz σ [(33, g)] []) (RV fun σ' => ∃ f, σ' = mz σ [(33, f)] [] ∧ ∀ i, i < 12 → f i = nI (sp t (sm w 12) w 12 i)) := by
          intro m9_2
          induction m9_2 with
          | zero => intro i2 g hme; exact absurd hme (Nat.not_lt_zero _)
          | succ m9_2 ih2 =>
            intro i2 g hme hi2 hg
            have hR := rm_le t (sm w 12) w 12 i2
            refine r_iload rfl rfl ?_
            refine r_aload_n rfl rfl ?_
            refine s_alen rfl rfl ?_
            refine n_icmp_ge (tgt := 107) rfl rfl (by omega) (by omega) (fun h2 => ?_) (fun h2 => ?_)
            · exact s_vret (st := []) rfl rfl (Nat.zero_le _) (Nat.zero_le _) (⟨rfl, g, rfl, fun j hj => by rw [hg j hj, if_pos (by omega)]⟩)
            · have hw2 := hwi i2 (by omega)
              refine r_iload rfl rfl ?_
              refine r_aload_n rfl rfl ?_
              refine s_alen rfl rfl ?_
              refine n_icmp_ge (tgt := 107) rfl rfl (by omega) (by omega) (fun hq => absurd hq (by omega)) (fun _ => ?_)
              refine r_iload rfl rfl ?_
              refine n_if_le (tgt := 101) rfl rfl (by omega) (fun h3 => ?_) (fun h3 => ?_)
              · refine n_iinc (lv' := [(5, .int (nI (i2 + 1))), (4, .int (nI (rm t (sm w 12) w 12 i2))), (0, .int (nI t)), (1, .ref 32), (2, .ref 33), (3, .int (nI (sm w 12)))]) 1 rfl rfl (Nat.le_of_ble_eq_true rfl) rfl ?_
                refine r_goto (tgt := 64) rfl rfl ?_
                have hz : ¬ (0 < rm t (sm w 12) w 12 i2 ∧ 0 < w i2) := by omega
                have e1 : rm t (sm w 12) w 12 (i2 + 1) = rm t (sm w 12) w 12 i2 := if_neg hz
                have e2 : sp t (sm w 12) w 12 i2 = bs t (sm w 12) w i2 := by show bs t (sm w 12) w i2 + tb (decide _) = _; rw [decide_eq_false hz]; rfl
                rw [← e1]
                refine r_lv (lv' := [(5, .int (nI (i2 + 1))), (4, .int (nI (rm t (sm w 12) w 12 (i2 + 1)))), (0, .int (nI t)), (1, .ref 32), (2, .ref 33), (3, .int (nI (sm w 12)))]) [0, 1, 2, 3, 4, 5] rfl ?_
                exact ih2 (i2 + 1) g (by omega) (by omega) (fun j hj => by rw [hg j hj, ifs_e e2 j])
              · refine r_aload_n rfl rfl ?_
                refine r_iload rfl rfl ?_
                refine s_iald (x := nI (w i2)) rfl rfl (by omega) (h _ (by omega)) ?_
                refine n_if_le (tgt := 101) rfl rfl (by omega) (fun h4 => ?_) (fun h4 => ?_)
                · refine n_iinc (lv' := [(5, .int (nI (i2 + 1))), (4, .int (nI (rm t (sm w 12) w 12 i2))), (0, .int (nI t)), (1, .ref 32), (2, .ref 33), (3, .int (nI (sm w 12)))]) 1 rfl rfl (Nat.le_of_ble_eq_true rfl) rfl ?_
                  refine r_goto (tgt := 64) rfl rfl ?_
                  have hz : ¬ (0 < rm t (sm w 12) w 12 i2 ∧ 0 < w i2) := by omega
                  have e1 : rm t (sm w 12) w 12 (i2 + 1) = rm t (sm w 12) w 12 i2 := if_neg hz
                  have e2 : sp t (sm w 12) w 12 i2 = bs t (sm w 12) w i2 := by show bs t (sm w 12) w i2 + tb (decide _) = _; rw [decide_eq_false hz]; rfl
                  rw [← e1]
                  refine r_lv (lv' := [(5, .int (nI (i2 + 1))), (4, .int (nI (rm t (sm w 12) w 12 (i2 + 1)))), (0, .int (nI t)), (1, .ref 32), (2, .ref 33), (3, .int (nI (sm w 12)))]) [0, 1, 2, 3, 4, 5] rfl ?_
                  exact ih2 (i2 + 1) g (by omega) (by omega) (fun j hj => by rw [hg j hj, ifs_e e2 j])
                · have hz : 0 < rm t (sm w 12) w 12 i2 ∧ 0 < w i2 := by omega
                  have e1 : rm t (sm w 12) w 12 (i2 + 1) = rm t (sm w 12) w 12 i2 - 1 := if_pos hz
                  have e2 : sp t (sm w 12) w 12 i2 = bs t (sm w 12) w i2 + 1 := by show bs t (sm w 12) w i2 + tb (decide _) = _; rw [decide_eq_true hz]; rfl
                  refine r_aload_n rfl rfl ?_
                  refine r_iload rfl rfl ?_
                  refine r_dup2 rfl rfl rfl ?_
                  refine s_iald (x := nI (bs t (sm w 12) w i2)) rfl rfl (by omega) (by have := hg i2 (by omega); rw [if_neg (Nat.lt_irrefl _)] at this; exact this) ?_
                  refine n_iconst 1 rfl ?_
                  refine n_iadd rfl ?_
                  refine m_iast (L' := [(33, (aup g i2 (nI ((bs t (sm w 12) w i2) + 1))))]) rfl rfl (by omega) rfl ?_
                  have e3 : rm t (sm w 12) w 12 i2 = rm t (sm w 12) w 12 (i2 + 1) + 1 := by omega
                  rw [e3]
                  refine n_iincD (lv' := [(4, .int (nI (rm t (sm w 12) w 12 (i2 + 1)))), (5, .int (nI i2)), (0, .int (nI t)), (1, .ref 32), (2, .ref 33), (3, .int (nI (sm w 12)))]) rfl rfl (Nat.le_of_ble_eq_true rfl) rfl ?_
                  refine n_iinc (lv' := [(5, .int (nI (i2 + 1))), (4, .int (nI (rm t (sm w 12) w 12 (i2 + 1)))), (0, .int (nI t)), (1, .ref 32), (2, .ref 33), (3, .int (nI (sm w 12)))]) 1 rfl rfl (Nat.le_of_ble_eq_true rfl) rfl ?_
                  refine r_goto (tgt := 64) rfl rfl ?_
                  refine r_lv (lv' := [(5, .int (nI (i2 + 1))), (4, .int (nI (rm t (sm w 12) w 12 (i2 + 1)))), (0, .int (nI t)), (1, .ref 32), (2, .ref 33), (3, .int (nI (sm w 12)))]) [0, 1, 2, 3, 4, 5] rfl ?_
                  exact ih2 (i2 + 1) _ (by omega) (by omega) (aup_all hg (by rw [ifs_s, e2]) (fun j _ q => by rw [ifs_n q]))
        exact loop2 13 0 f (by omega) (by omega) (fun j hj => by rw [if_neg (by omega)]; exact hf j hj)
      · refine r_iload rfl rfl ?_
        refine r_aload_n rfl rfl ?_
        refine s_alen rfl rfl ?_
        refine n_icmp_ge (tgt := 61) rfl rfl (by omega) (by omega) (fun hq => absurd hq (by omega)) (fun _ => ?_)
        refine r_aload_n rfl rfl ?_
        refine r_iload rfl rfl ?_
        refine r_iload_n rfl rfl ?_
        refine r_aload_n rfl rfl ?_
        refine r_iload rfl rfl ?_
        refine s_iald (x := nI (w i)) rfl rfl (by omega) (h _ (by omega)) ?_
        refine r_iload_n rfl rfl ?_
        have hwq := hwi i (by omega)
        have hBi : sm (bs t (sm w 12) w) (i + 1) = sm (bs t (sm w 12) w) i + bs t (sm w 12) w i := rfl
        have hBm := sm_mono (f := bs t (sm w 12) w) (show i + 1 ≤ 12 by omega)
        refine s_staI [.int (nI t), .int (nI (w i)), .int (nI (sm w 12))] [.int (nI i), .ref 33] rfl lkX9_399 (c_portion (by omega) hwq hw) rfl rfl (Nat.le_refl _) (Nat.le_refl _) rfl (rI (e1 := nI (bs t (sm w 12) w i)) rfl ?_)
        refine m_iast (L' := [(33, (aup f i (nI (bs t (sm w 12) w i))))]) rfl rfl (by omega) rfl ?_
        refine r_iload rfl rfl ?_
        refine r_aload_n rfl rfl ?_
        refine r_iload rfl rfl ?_
        refine s_iald (x := nI (bs t (sm w 12) w i)) rfl rfl (by omega) (aup_s _ _ _) ?_
        refine n_isub rfl (by omega) ?_
        refine r_istore (lv' := [(4, .int (nI (((if (sm w 12) = 0 then 0 else t) - sm (bs t (sm w 12) w) i) - (bs t (sm w 12) w i)))), (5, .int (nI i)), (0, .int (nI t)), (1, .ref 32), (2, .ref 33), (3, .int (nI (sm w 12)))]) rfl (Nat.le_of_ble_eq_true rfl) rfl ?_
        refine n_iinc (lv' := [(5, .int (nI (i + 1))), (4, .int (nI (((if (sm w 12) = 0 then 0 else t) - sm (bs t (sm w 12) w) i) - (bs t (sm w 12) w i)))), (0, .int (nI t)), (1, .ref 32), (2, .ref 33), (3, .int (nI (sm w 12)))]) 1 rfl rfl (Nat.le_of_ble_eq_true rfl) rfl ?_
        refine r_goto (tgt := 19) rfl rfl ?_
        rw [show (if (sm w 12) = 0 then 0 else t) - sm (bs t (sm w 12) w) i - bs t (sm w 12) w i = (if (sm w 12) = 0 then 0 else t) - sm (bs t (sm w 12) w) (i + 1) by omega]
        refine r_lv (lv' := [(5, .int (nI (i + 1))), (4, .int (nI ((if (sm w 12) = 0 then 0 else t) - sm (bs t (sm w 12) w) (i + 1)))), (0, .int (nI t)), (1, .ref 32), (2, .ref 33), (3, .int (nI (sm w 12)))]) [0, 1, 2, 3, 4, 5] rfl ?_
        exact ih (i + 1) _ (by omega) (by omega) (aup_lt hf rfl)
  exact loop 13 0 _ (by omega) (by omega) (fun j hj => absurd hj (Nat.not_lt_zero _))

theorem c_split_40_41 {z : SZ} {sc : SC} {σ : SS} {t : Nat} {w : Nat → Nat} (ht : t < 2147483648) (h : ∀ i, i < 8 → σ.1 40 i = nI (w i)) (hw : sm w 8 < 2147483648) : Cs z sc mX9_split 0 0 [.int (nI t), .ref 40, .ref 41] σ (RV fun σ' => ∃ f, σ' = mz σ [(41, f)] [] ∧ ∀ i, i < 8 → f i = nI (sp t (sm w 8) w 8 i)) := by
  refine Cs.of gmX9_split (Nat.le_of_ble_eq_true rfl) ?_
  show Ws z sc mX9_split 0 0 0 0 0 [(0, .int (nI t)), (1, .ref 40), (2, .ref 41)] [] (mz σ [] []) (RV fun σ' => ∃ f, σ' = mz σ [(41, f)] [] ∧ ∀ i, i < 8 → f i = nI (sp t (sm w 8) w 8 i))
  have hB := bs_le t w 8
  have hT : (if (sm w 8) = 0 then 0 else t) ≤ t := by split <;> omega
  have hwi : ∀ i, i < 8 → w i < 2147483648 := fun i hi => Nat.lt_of_le_of_lt (sm_pos hi) hw
  refine r_aload_n rfl rfl ?_
  refine s_staI [.ref 40] [] rfl lkX9_395 (c_sumOf_40 h) rfl rfl (Nat.le_refl _) (Nat.le_refl _) rfl (rI (e1 := nI (sm w 8)) rfl ?_)
  refine r_istore_n (lv' := [(3, .int (nI (sm w 8))), (0, .int (nI t)), (1, .ref 40), (2, .ref 41)]) rfl rfl (Nat.le_of_ble_eq_true rfl) rfl ?_
  refine r_iload_n rfl rfl ?_
  suffices K : Ws z sc mX9_split 0 0 0 0 14 [(3, .int (nI (sm w 8))), (0, .int (nI t)), (1, .ref 40), (2, .ref 41)] [.int (nI ((if (sm w 8) = 0 then 0 else t)))] (mz σ [] []) (RV fun σ' => ∃ f, σ' = mz σ [(41, f)] [] ∧ ∀ i, i < 8 → f i = nI (sp t (sm w 8) w 8 i)) by
    refine n_if_le (tgt := 13) rfl rfl (by omega) (fun h1 => ?_) (fun h1 => ?_)
    · refine n_iconst 0 rfl ?_
      exact r_top (by rw [if_pos h1]) K
    · refine r_iload_n rfl rfl ?_
      refine r_goto (tgt := 14) rfl rfl ?_
      exact r_top (by rw [if_neg (by omega)]) K
  refine r_istore (lv' := [(4, .int (nI ((if (sm w 8) = 0 then 0 else t)))), (3, .int (nI (sm w 8))), (0, .int (nI t)), (1, .ref 40), (2, .ref 41)]) rfl (Nat.le_of_ble_eq_true rfl) rfl ?_
  refine n_iconst 0 rfl ?_
  refine r_istore (lv' := [(5, .int (nI 0)), (4, .int (nI ((if (sm w 8) = 0 then 0 else t)))), (3, .int (nI (sm w 8))), (0, .int (nI t)), (1, .ref 40), (2, .ref 41)]) rfl (Nat.le_of_ble_eq_true rfl) rfl ?_
  refine r_lv (lv' := [(5, .int (nI 0)), (4, .int (nI ((if (sm w 8) = 0 then 0 else t)))), (0, .int (nI t)), (1, .ref 40), (2, .ref 41), (3, .int (nI (sm w 8)))]) [0, 1, 3, 4, 5, 2] rfl ?_
  refine m_newI (L' := [(41, (σ.1 41))]) 41 rfl ?_
  have loop : ∀ (m9 : Nat) (i : Nat) (f : Nat → Int32), 8 - i < m9 → (i ≤ 8) → (∀ j, j < i → f j = nI (bs t (sm w 8) w j)) → Ws z sc mX9_split 0 0 0 0 19 [(5, .int (nI i)), (4, .int (nI ((if (sm w 8) = 0 then 0 else t) - sm (bs t (sm w 8) w) i))), (0, .int (nI t)), (1, .ref 40), (2, .ref 41), (3, .int (nI (sm w 8)))] [] (mz σ [(41, f)] []) (RV fun σ' => ∃ f, σ' = mz σ [(41, f)] [] ∧ ∀ i, i < 8 → f i = nI (sp t (sm w 8) w 8 i)) := by
    intro m9
    induction m9 with
    | zero => intro i f hme; exact absurd hme (Nat.not_lt_zero _)
    | succ m9 ih =>
      intro i f hme hi hf
      refine r_iload rfl rfl ?_
      refine r_aload_n rfl rfl ?_
      refine s_alen rfl rfl ?_
      refine n_icmp_ge (tgt := 61) rfl rfl (by omega) (by omega) (fun h1 => ?_) (fun h1 => ?_)
      · rw [show i = 8 by omega] at hf ⊢
        refine n_iconst 0 rfl ?_
        refine r_istore (lv' := [(5, .int (nI 0)), (4, .int (nI ((if (sm w 8) = 0 then 0 else t) - sm (bs t (sm w 8) w) 8))), (0, .int (nI t)), (1, .ref 40), (2, .ref 41), (3, .int (nI (sm w 8)))]) rfl (Nat.le_of_ble_eq_true rfl) rfl ?_
        refine r_lv (lv' := [(5, .int (nI 0)), (4, .int (nI ((if (sm w 8) = 0 then 0 else t) - sm (bs t (sm w 8) w) 8))), (0, .int (nI t)), (1, .ref 40), (2, .ref 41), (3, .int (nI (sm w 8)))]) [0, 1, 2, 3, 4, 5] rfl ?_
        have loop2 : ∀ (m9_2 : Nat) (i2 : Nat) (g : Nat → Int32), 8 - i2 < m9_2 → (i2 ≤ 8) → (∀ j, j < 8 → g j = nI (if j < i2 then sp t (sm w 8) w 8 j else bs t (sm w 8) w j)) → Ws z sc mX9_split 0 0 0 0 64 [(5, .int (nI i2)), (4, .int (nI (rm t (sm w 8) w 8 i2))), (0, .int (nI t)), (1, .ref 40), (2, .ref 41), (3, .int (nI (sm w 8)))] [] (mz σ [(41, g)] []) (RV fun σ' => ∃ f, σ' = mz σ [(41, f)] [] ∧ ∀ i, i < 8 → f i = nI (sp t (sm w 8) w 8 i)) := by
          intro m9_2
          induction m9_2 with
          | zero => intro i2 g hme; exact absurd hme (Nat.not_lt_zero _)
          | succ m9_2 ih2 =>
            intro i2 g hme hi2 hg
            have hR := rm_le t (sm w 8) w 8 i2
            refine r_iload rfl rfl ?_
            refine r_aload_n rfl rfl ?_
            refine s_alen rfl rfl ?_
            refine n_icmp_ge (tgt := 107) rfl rfl (by omega) (by omega) (fun h2 => ?_) (fun h2 => ?_)
            · exact s_vret (st := []) rfl rfl (Nat.zero_le _) (Nat.zero_le _) (⟨rfl, g, rfl, fun j hj => by rw [hg j hj, if_pos (by omega)]⟩)
            · have hw2 := hwi i2 (by omega)
              refine r_iload rfl rfl ?_
              refine r_aload_n rfl rfl ?_
              refine s_alen rfl rfl ?_
              refine n_icmp_ge (tgt := 107) rfl rfl (by omega) (by omega) (fun hq => absurd hq (by omega)) (fun _ => ?_)
              refine r_iload rfl rfl ?_
              refine n_if_le (tgt := 101) rfl rfl (by omega) (fun h3 => ?_) (fun h3 => ?_)
              · refine n_iinc (lv' := [(5, .int (nI (i2 + 1))), (4, .int (nI (rm t (sm w 8) w 8 i2))), (0, .int (nI t)), (1, .ref 40), (2, .ref 41), (3, .int (nI (sm w 8)))]) 1 rfl rfl (Nat.le_of_ble_eq_true rfl) rfl ?_
                refine r_goto (tgt := 64) rfl rfl ?_
                have hz : ¬ (0 < rm t (sm w 8) w 8 i2 ∧ 0 < w i2) := by omega
                have e1 : rm t (sm w 8) w 8 (i2 + 1) = rm t (sm w 8) w 8 i2 := if_neg hz
                have e2 : sp t (sm w 8) w 8 i2 = bs t (sm w 8) w i2 := by show bs t (sm w 8) w i2 + tb (decide _) = _; rw [decide_eq_false hz]; rfl
                rw [← e1]
                refine r_lv (lv' := [(5, .int (nI (i2 + 1))), (4, .int (nI (rm t (sm w 8) w 8 (i2 + 1)))), (0, .int (nI t)), (1, .ref 40), (2, .ref 41), (3, .int (nI (sm w 8)))]) [0, 1, 2, 3, 4, 5] rfl ?_
                exact ih2 (i2 + 1) g (by omega) (by omega) (fun j hj => by rw [hg j hj, ifs_e e2 j])
              · refine r_aload_n rfl rfl ?_
                refine r_iload rfl rfl ?_
                refine s_iald (x := nI (w i2)) rfl rfl (by omega) (h _ (by omega)) ?_
                refine n_if_le (tgt := 101) rfl rfl (by omega) (fun h4 => ?_) (fun h4 => ?_)
                · refine n_iinc (lv' := [(5, .int (nI (i2 + 1))), (4, .int (nI (rm t (sm w 8) w 8 i2))), (0, .int (nI t)), (1, .ref 40), (2, .ref 41), (3, .int (nI (sm w 8)))]) 1 rfl rfl (Nat.le_of_ble_eq_true rfl) rfl ?_
                  refine r_goto (tgt := 64) rfl rfl ?_
                  have hz : ¬ (0 < rm t (sm w 8) w 8 i2 ∧ 0 < w i2) := by omega
                  have e1 : rm t (sm w 8) w 8 (i2 + 1) = rm t (sm w 8) w 8 i2 := if_neg hz
                  have e2 : sp t (sm w 8) w 8 i2 = bs t (sm w 8) w i2 := by show bs t (sm w 8) w i2 + tb (decide _) = _; rw [decide_eq_false hz]; rfl
                  rw [← e1]
                  refine r_lv (lv' := [(5, .int (nI (i2 + 1))), (4, .int (nI (rm t (sm w 8) w 8 (i2 + 1)))), (0, .int (nI t)), (1, .ref 40), (2, .ref 41), (3, .int (nI (sm w 8)))]) [0, 1, 2, 3, 4, 5] rfl ?_
                  exact ih2 (i2 + 1) g (by omega) (by omega) (fun j hj => by rw [hg j hj, ifs_e e2 j])
                · have hz : 0 < rm t (sm w 8) w 8 i2 ∧ 0 < w i2 := by omega
                  have e1 : rm t (sm w 8) w 8 (i2 + 1) = rm t (sm w 8) w 8 i2 - 1 := if_pos hz
                  have e2 : sp t (sm w 8) w 8 i2 = bs t (sm w 8) w i2 + 1 := by show bs t (sm w 8) w i2 + tb (decide _) = _; rw [decide_eq_true hz]; rfl
                  refine r_aload_n rfl rfl ?_
                  refine r_iload rfl rfl ?_
                  refine r_dup2 rfl rfl rfl ?_
                  refine s_iald (x := nI (bs t (sm w 8) w i2)) rfl rfl (by omega) (by have := hg i2 (by omega); rw [if_neg (Nat.lt_irrefl _)] at this; exact this) ?_
                  refine n_iconst 1 rfl ?_
                  refine n_iadd rfl ?_
                  refine m_iast (L' := [(41, (aup g i2 (nI ((bs t (sm w 8) w i2) + 1))))]) rfl rfl (by omega) rfl ?_
                  have e3 : rm t (sm w 8) w 8 i2 = rm t (sm w 8) w 8 (i2 + 1) + 1 := by omega
                  rw [e3]
                  refine n_iincD (lv' := [(4, .int (nI (rm t (sm w 8) w 8 (i2 + 1)))), (5, .int (nI i2)), (0, .int (nI t)), (1, .ref 40), (2, .ref 41), (3, .int (nI (sm w 8)))]) rfl rfl (Nat.le_of_ble_eq_true rfl) rfl ?_
                  refine n_iinc (lv' := [(5, .int (nI (i2 + 1))), (4, .int (nI (rm t (sm w 8) w 8 (i2 + 1)))), (0, .int (nI t)), (1, .ref 40), (2, .ref 41), (3, .int (nI (sm w 8)))]) 1 rfl rfl (Nat.le_of_ble_eq_true rfl) rfl ?_
                  refine r_goto (tgt := 64) rfl rfl ?_
                  refine r_lv (lv' := [(5, .int (nI (i2 + 1))), (4, .int (nI (rm t (sm w 8) w 8 (i2 + 1)))), (0, .int (nI t)), (1, .ref 40), (2, .ref 41), (3, .int (nI (sm w 8)))]) [0, 1, 2, 3, 4, 5] rfl ?_
                  exact ih2 (i2 + 1) _ (by omega) (by omega) (aup_all hg (by rw [ifs_s, e2]) (fun j _ q => by rw [ifs_n q]))
        exact loop2 9 0 f (by omega) (by omega) (fun j hj => by rw [if_neg (by omega)]; exact hf j hj)
      · refine r_iload rfl rfl ?_
        refine r_aload_n rfl rfl ?_
        refine s_alen rfl rfl ?_
        refine n_icmp_ge (tgt := 61) rfl rfl (by omega) (by omega) (fun hq => absurd hq (by omega)) (fun _ => ?_)
        refine r_aload_n rfl rfl ?_
        refine r_iload rfl rfl ?_
        refine r_iload_n rfl rfl ?_
        refine r_aload_n rfl rfl ?_
        refine r_iload rfl rfl ?_
        refine s_iald (x := nI (w i)) rfl rfl (by omega) (h _ (by omega)) ?_
        refine r_iload_n rfl rfl ?_
        have hwq := hwi i (by omega)
        have hBi : sm (bs t (sm w 8) w) (i + 1) = sm (bs t (sm w 8) w) i + bs t (sm w 8) w i := rfl
        have hBm := sm_mono (f := bs t (sm w 8) w) (show i + 1 ≤ 8 by omega)
        refine s_staI [.int (nI t), .int (nI (w i)), .int (nI (sm w 8))] [.int (nI i), .ref 41] rfl lkX9_399 (c_portion (by omega) hwq hw) rfl rfl (Nat.le_refl _) (Nat.le_refl _) rfl (rI (e1 := nI (bs t (sm w 8) w i)) rfl ?_)
        refine m_iast (L' := [(41, (aup f i (nI (bs t (sm w 8) w i))))]) rfl rfl (by omega) rfl ?_
        refine r_iload rfl rfl ?_
        refine r_aload_n rfl rfl ?_
        refine r_iload rfl rfl ?_
        refine s_iald (x := nI (bs t (sm w 8) w i)) rfl rfl (by omega) (aup_s _ _ _) ?_
        refine n_isub rfl (by omega) ?_
        refine r_istore (lv' := [(4, .int (nI (((if (sm w 8) = 0 then 0 else t) - sm (bs t (sm w 8) w) i) - (bs t (sm w 8) w i)))), (5, .int (nI i)), (0, .int (nI t)), (1, .ref 40), (2, .ref 41), (3, .int (nI (sm w 8)))]) rfl (Nat.le_of_ble_eq_true rfl) rfl ?_
        refine n_iinc (lv' := [(5, .int (nI (i + 1))), (4, .int (nI (((if (sm w 8) = 0 then 0 else t) - sm (bs t (sm w 8) w) i) - (bs t (sm w 8) w i)))), (0, .int (nI t)), (1, .ref 40), (2, .ref 41), (3, .int (nI (sm w 8)))]) 1 rfl rfl (Nat.le_of_ble_eq_true rfl) rfl ?_
        refine r_goto (tgt := 19) rfl rfl ?_
        rw [show (if (sm w 8) = 0 then 0 else t) - sm (bs t (sm w 8) w) i - bs t (sm w 8) w i = (if (sm w 8) = 0 then 0 else t) - sm (bs t (sm w 8) w) (i + 1) by omega]
        refine r_lv (lv' := [(5, .int (nI (i + 1))), (4, .int (nI ((if (sm w 8) = 0 then 0 else t) - sm (bs t (sm w 8) w) (i + 1)))), (0, .int (nI t)), (1, .ref 40), (2, .ref 41), (3, .int (nI (sm w 8)))]) [0, 1, 2, 3, 4, 5] rfl ?_
        exact ih (i + 1) _ (by omega) (by omega) (aup_lt hf rfl)
  exact loop 9 0 _ (by omega) (by omega) (fun j hj => absurd hj (Nat.not_lt_zero _))

theorem c_split_40_39 {z : SZ} {sc : SC} {σ : SS} {t : Nat} {w : Nat → Nat} (ht : t < 2147483648) (h : ∀ i, i < 8 → σ.1 40 i = nI (w i)) (hw : sm w 8 < 2147483648) : Cs z sc mX9_split 0 0 [.int (nI t), .ref 40, .ref 39] σ (RV fun σ' => ∃ f, σ' = mz σ [(39, f)] [] ∧ ∀ i, i < 8 → f i = nI (sp t (sm w 8) w 8 i)) := by
  refine Cs.of gmX9_split (Nat.le_of_ble_eq_true rfl) ?_
  show Ws z sc mX9_split 0 0 0 0 0 [(0, .int (nI t)), (1, .ref 40), (2, .ref 39)] [] (mz σ [] []) (RV fun σ' => ∃ f, σ' = mz σ [(39, f)] [] ∧ ∀ i, i < 8 → f i = nI (sp t (sm w 8) w 8 i))
  have hB := bs_le t w 8
  have hT : (if (sm w 8) = 0 then 0 else t) ≤ t := by split <;> omega
  have hwi : ∀ i, i < 8 → w i < 2147483648 := fun i hi => Nat.lt_of_le_of_lt (sm_pos hi) hw
  refine r_aload_n rfl rfl ?_
  refine s_staI [.ref 40] [] rfl lkX9_395 (c_sumOf_40 h) rfl rfl (Nat.le_refl _) (Nat.le_refl _) rfl (rI (e1 := nI (sm w 8)) rfl ?_)
  refine r_istore_n (lv' := [(3, .int (nI (sm w 8))), (0, .int (nI t)), (1, .ref 40), (2, .ref 39)]) rfl rfl (Nat.le_of_ble_eq_true rfl) rfl ?_
  refine r_iload_n rfl rfl ?_
  suffices K : Ws z sc mX9_split 0 0 0 0 14 [(3, .int (nI (sm w 8))), (0, .int (nI t)), (1, .ref 40), (2, .ref 39)] [.int (nI ((if (sm w 8) = 0 then 0 else t)))] (mz σ [] []) (RV fun σ' => ∃ f, σ' = mz σ [(39, f)] [] ∧ ∀ i, i < 8 → f i = nI (sp t (sm w 8) w 8 i)) by
    refine n_if_le (tgt := 13) rfl rfl (by omega) (fun h1 => ?_) (fun h1 => ?_)
    · refine n_iconst 0 rfl ?_
      exact r_top (by rw [if_pos h1]) K
    · refine r_iload_n rfl rfl ?_
      refine r_goto (tgt := 14) rfl rfl ?_
      exact r_top (by rw [if_neg (by omega)]) K
  refine r_istore (lv' := [(4, .int (nI ((if (sm w 8) = 0 then 0 else t)))), (3, .int (nI (sm w 8))), (0, .int (nI t)), (1, .ref 40), (2, .ref 39)]) rfl (Nat.le_of_ble_eq_true rfl) rfl ?_
  refine n_iconst 0 rfl ?_
  refine r_istore (lv' := [(5, .int (nI 0)), (4, .int (nI ((if (sm w 8) = 0 then 0 else t)))), (3, .int (nI (sm w 8))), (0, .int (nI t)), (1, .ref 40), (2, .ref 39)]) rfl (Nat.le_of_ble_eq_true rfl) rfl ?_
  refine r_lv (lv' := [(5, .int (nI 0)), (4, .int (nI ((if (sm w 8) = 0 then 0 else t)))), (0, .int (nI t)), (1, .ref 40), (2, .ref 39), (3, .int (nI (sm w 8)))]) [0, 1, 3, 4, 5, 2] rfl ?_
  refine m_newI (L' := [(39, (σ.1 39))]) 39 rfl ?_
  have loop : ∀ (m9 : Nat) (i : Nat) (f : Nat → Int32), 8 - i < m9 → (i ≤ 8) → (∀ j, j < i → f j = nI (bs t (sm w 8) w j)) → Ws z sc mX9_split 0 0 0 0 19 [(5, .int (nI i)), (4, .int (nI ((if (sm w 8) = 0 then 0 else t) - sm (bs t (sm w 8) w) i))), (0, .int (nI t)), (1, .ref 40), (2, .ref 39), (3, .int (nI (sm w 8)))] [] (mz σ [(39, f)] []) (RV fun σ' => ∃ f, σ' = mz σ [(39, f)] [] ∧ ∀ i, i < 8 → f i = nI (sp t (sm w 8) w 8 i)) := by
    intro m9
    induction m9 with
    | zero => intro i f hme; exact absurd hme (Nat.not_lt_zero _)
    | succ m9 ih =>
      intro i f hme hi hf
      refine r_iload rfl rfl ?_
      refine r_aload_n rfl rfl ?_
      refine s_alen rfl rfl ?_
      refine n_icmp_ge (tgt := 61) rfl rfl (by omega) (by omega) (fun h1 => ?_) (fun h1 => ?_)
      · rw [show i = 8 by omega] at hf ⊢
        refine n_iconst 0 rfl ?_
        refine r_istore (lv' := [(5, .int (nI 0)), (4, .int (nI ((if (sm w 8) = 0 then 0 else t) - sm (bs t (sm w 8) w) 8))), (0, .int (nI t)), (1, .ref 40), (2, .ref 39), (3, .int (nI (sm w 8)))]) rfl (Nat.le_of_ble_eq_true rfl) rfl ?_
        refine r_lv (lv' := [(5, .int (nI 0)), (4, .int (nI ((if (sm w 8) = 0 then 0 else t) - sm (bs t (sm w 8) w) 8))), (0, .int (nI t)), (1, .ref 40), (2, .ref 39), (3, .int (nI (sm w 8)))]) [0, 1, 2, 3, 4, 5] rfl ?_
        have loop2 : ∀ (m9_2 : Nat) (i2 : Nat) (g : Nat → Int32), 8 - i2 < m9_2 → (i2 ≤ 8) → (∀ j, j < 8 → g j = nI (if j < i2 then sp t (sm w 8) w 8 j else bs t (sm w 8) w j)) → Ws z sc mX9_split 0 0 0 0 64 [(5, .int (nI i2)), (4, .int (nI (rm t (sm w 8) w 8 i2))), (0, .int (nI t)), (1, .ref 40), (2, .ref 39), (3, .int (nI (sm w 8)))] [] (mz σ [(39, g)] []) (RV fun σ' => ∃ f, σ' = mz σ [(39, f)] [] ∧ ∀ i, i < 8 → f i = nI (sp t (sm w 8) w 8 i)) := by
          intro m9_2
          induction m9_2 with
          | zero => intro i2 g hme; exact absurd hme (Nat.not_lt_zero _)
          | succ m9_2 ih2 =>
            intro i2 g hme hi2 hg
            have hR := rm_le t (sm w 8) w 8 i2
            refine r_iload rfl rfl ?_
            refine r_aload_n rfl rfl ?_
            refine s_alen rfl rfl ?_
            refine n_icmp_ge (tgt := 107) rfl rfl (by omega) (by omega) (fun h2 => ?_) (fun h2 => ?_)
            · exact s_vret (st := []) rfl rfl (Nat.zero_le _) (Nat.zero_le _) (⟨rfl, g, rfl, fun j hj => by rw [hg j hj, if_pos (by omega)]⟩)
            · have hw2 := hwi i2 (by omega)
              refine r_iload rfl rfl ?_
              refine r_aload_n rfl rfl ?_
              refine s_alen rfl rfl ?_
              refine n_icmp_ge (tgt := 107) rfl rfl (by omega) (by omega) (fun hq => absurd hq (by omega)) (fun _ => ?_)
              refine r_iload rfl rfl ?_
              refine n_if_le (tgt := 101) rfl rfl (by omega) (fun h3 => ?_) (fun h3 => ?_)
              · refine n_iinc (lv' := [(5, .int (nI (i2 + 1))), (4, .int (nI (rm t (sm w 8) w 8 i2))), (0, .int (nI t)), (1, .ref 40), (2, .ref 39), (3, .int (nI (sm w 8)))]) 1 rfl rfl (Nat.le_of_ble_eq_true rfl) rfl ?_
                refine r_goto (tgt := 64) rfl rfl ?_
                have hz : ¬ (0 < rm t (sm w 8) w 8 i2 ∧ 0 < w i2) := by omega
                have e1 : rm t (sm w 8) w 8 (i2 + 1) = rm t (sm w 8) w 8 i2 := if_neg hz
                have e2 : sp t (sm w 8) w 8 i2 = bs t (sm w 8) w i2 := by show bs t (sm w 8) w i2 + tb (decide _) = _; rw [decide_eq_false hz]; rfl
                rw [← e1]
                refine r_lv (lv' := [(5, .int (nI (i2 + 1))), (4, .int (nI (rm t (sm w 8) w 8 (i2 + 1)))), (0, .int (nI t)), (1, .ref 40), (2, .ref 39), (3, .int (nI (sm w 8)))]) [0, 1, 2, 3, 4, 5] rfl ?_
                exact ih2 (i2 + 1) g (by omega) (by omega) (fun j hj => by rw [hg j hj, ifs_e e2 j])
              · refine r_aload_n rfl rfl ?_
                refine r_iload rfl rfl ?_
                refine s_iald (x := nI (w i2)) rfl rfl (by omega) (h _ (by omega)) ?_
                refine n_if_le (tgt := 101) rfl rfl (by omega) (fun h4 => ?_) (fun h4 => ?_)
                · refine n_iinc (lv' := [(5, .int (nI (i2 + 1))), (4, .int (nI (rm t (sm w 8) w 8 i2))), (0, .int (nI t)), (1, .ref 40), (2, .ref 39), (3, .int (nI (sm w 8)))]) 1 rfl rfl (Nat.le_of_ble_eq_true rfl) rfl ?_
                  refine r_goto (tgt := 64) rfl rfl ?_
                  have hz : ¬ (0 < rm t (sm w 8) w 8 i2 ∧ 0 < w i2) := by omega
                  have e1 : rm t (sm w 8) w 8 (i2 + 1) = rm t (sm w 8) w 8 i2 := if_neg hz
                  have e2 : sp t (sm w 8) w 8 i2 = bs t (sm w 8) w i2 := by show bs t (sm w 8) w i2 + tb (decide _) = _; rw [decide_eq_false hz]; rfl
                  rw [← e1]
                  refine r_lv (lv' := [(5, .int (nI (i2 + 1))), (4, .int (nI (rm t (sm w 8) w 8 (i2 + 1)))), (0, .int (nI t)), (1, .ref 40), (2, .ref 39), (3, .int (nI (sm w 8)))]) [0, 1, 2, 3, 4, 5] rfl ?_
                  exact ih2 (i2 + 1) g (by omega) (by omega) (fun j hj => by rw [hg j hj, ifs_e e2 j])
                · have hz : 0 < rm t (sm w 8) w 8 i2 ∧ 0 < w i2 := by omega
                  have e1 : rm t (sm w 8) w 8 (i2 + 1) = rm t (sm w 8) w 8 i2 - 1 := if_pos hz
                  have e2 : sp t (sm w 8) w 8 i2 = bs t (sm w 8) w i2 + 1 := by show bs t (sm w 8) w i2 + tb (decide _) = _; rw [decide_eq_true hz]; rfl
                  refine r_aload_n rfl rfl ?_
                  refine r_iload rfl rfl ?_
                  refine r_dup2 rfl rfl rfl ?_
                  refine s_iald (x := nI (bs t (sm w 8) w i2)) rfl rfl (by omega) (by have := hg i2 (by omega); rw [if_neg (Nat.lt_irrefl _)] at this; exact this) ?_
                  refine n_iconst 1 rfl ?_
                  refine n_iadd rfl ?_
                  refine m_iast (L' := [(39, (aup g i2 (nI ((bs t (sm w 8) w i2) + 1))))]) rfl rfl (by omega) rfl ?_
                  have e3 : rm t (sm w 8) w 8 i2 = rm t (sm w 8) w 8 (i2 + 1) + 1 := by omega
                  rw [e3]
                  refine n_iincD (lv' := [(4, .int (nI (rm t (sm w 8) w 8 (i2 + 1)))), (5, .int (nI i2)), (0, .int (nI t)), (1, .ref 40), (2, .ref 39), (3, .int (nI (sm w 8)))]) rfl rfl (Nat.le_of_ble_eq_true rfl) rfl ?_
                  refine n_iinc (lv' := [(5, .int (nI (i2 + 1))), (4, .int (nI (rm t (sm w 8) w 8 (i2 + 1)))), (0, .int (nI t)), (1, .ref 40), (2, .ref 39), (3, .int (nI (sm w 8)))]) 1 rfl rfl (Nat.le_of_ble_eq_true rfl) rfl ?_
                  refine r_goto (tgt := 64) rfl rfl ?_
                  refine r_lv (lv' := [(5, .int (nI (i2 + 1))), (4, .int (nI (rm t (sm w 8) w 8 (i2 + 1)))), (0, .int (nI t)), (1, .ref 40), (2, .ref 39), (3, .int (nI (sm w 8)))]) [0, 1, 2, 3, 4, 5] rfl ?_
                  exact ih2 (i2 + 1) _ (by omega) (by omega) (aup_all hg (by rw [ifs_s, e2]) (fun j _ q => by rw [ifs_n q]))
        exact loop2 9 0 f (by omega) (by omega) (fun j hj => by rw [if_neg (by omega)]; exact hf j hj)
      · refine r_iload rfl rfl ?_
        refine r_aload_n rfl rfl ?_
        refine s_alen rfl rfl ?_
        refine n_icmp_ge (tgt := 61) rfl rfl (by omega) (by omega) (fun hq => absurd hq (by omega)) (fun _ => ?_)
        refine r_aload_n rfl rfl ?_
        refine r_iload rfl rfl ?_
        refine r_iload_n rfl rfl ?_
        refine r_aload_n rfl rfl ?_
        refine r_iload rfl rfl ?_
        refine s_iald (x := nI (w i)) rfl rfl (by omega) (h _ (by omega)) ?_
        refine r_iload_n rfl rfl ?_
        have hwq := hwi i (by omega)
        have hBi : sm (bs t (sm w 8) w) (i + 1) = sm (bs t (sm w 8) w) i + bs t (sm w 8) w i := rfl
        have hBm := sm_mono (f := bs t (sm w 8) w) (show i + 1 ≤ 8 by omega)
        refine s_staI [.int (nI t), .int (nI (w i)), .int (nI (sm w 8))] [.int (nI i), .ref 39] rfl lkX9_399 (c_portion (by omega) hwq hw) rfl rfl (Nat.le_refl _) (Nat.le_refl _) rfl (rI (e1 := nI (bs t (sm w 8) w i)) rfl ?_)
        refine m_iast (L' := [(39, (aup f i (nI (bs t (sm w 8) w i))))]) rfl rfl (by omega) rfl ?_
        refine r_iload rfl rfl ?_
        refine r_aload_n rfl rfl ?_
        refine r_iload rfl rfl ?_
        refine s_iald (x := nI (bs t (sm w 8) w i)) rfl rfl (by omega) (aup_s _ _ _) ?_
        refine n_isub rfl (by omega) ?_
        refine r_istore (lv' := [(4, .int (nI (((if (sm w 8) = 0 then 0 else t) - sm (bs t (sm w 8) w) i) - (bs t (sm w 8) w i)))), (5, .int (nI i)), (0, .int (nI t)), (1, .ref 40), (2, .ref 39), (3, .int (nI (sm w 8)))]) rfl (Nat.le_of_ble_eq_true rfl) rfl ?_
        refine n_iinc (lv' := [(5, .int (nI (i + 1))), (4, .int (nI (((if (sm w 8) = 0 then 0 else t) - sm (bs t (sm w 8) w) i) - (bs t (sm w 8) w i)))), (0, .int (nI t)), (1, .ref 40), (2, .ref 39), (3, .int (nI (sm w 8)))]) 1 rfl rfl (Nat.le_of_ble_eq_true rfl) rfl ?_
        refine r_goto (tgt := 19) rfl rfl ?_
        rw [show (if (sm w 8) = 0 then 0 else t) - sm (bs t (sm w 8) w) i - bs t (sm w 8) w i = (if (sm w 8) = 0 then 0 else t) - sm (bs t (sm w 8) w) (i + 1) by omega]
        refine r_lv (lv' := [(5, .int (nI (i + 1))), (4, .int (nI ((if (sm w 8) = 0 then 0 else t) - sm (bs t (sm w 8) w) (i + 1)))), (0, .int (nI t)), (1, .ref 40), (2, .ref 39), (3, .int (nI (sm w 8)))]) [0, 1, 2, 3, 4, 5] rfl ?_
        exact ih (i + 1) _ (by omega) (by omega) (aup_lt hf rfl)
  exact loop 9 0 _ (by omega) (by omega) (fun j hj => absurd hj (Nat.not_lt_zero _))

theorem c_split_48_49 {z : SZ} {sc : SC} {σ : SS} {t : Nat} {w : Nat → Nat} (ht : t < 2147483648) (h : ∀ i, i < 12 → σ.1 48 i = nI (w i)) (hw : sm w 12 < 2147483648) : Cs z sc mX9_split 0 0 [.int (nI t), .ref 48, .ref 49] σ (RV fun σ' => ∃ f, σ' = mz σ [(49, f)] [] ∧ ∀ i, i < 12 → f i = nI (sp t (sm w 12) w 12 i)) := by
  refine Cs.of gmX9_split (Nat.le_of_ble_eq_true rfl) ?_
  show Ws z sc mX9_split 0 0 0 0 0 [(0, .int (nI t)), (1, .ref 48), (2, .ref 49)] [] (mz σ [] []) (RV fun σ' => ∃ f, σ' = mz σ [(49, f)] [] ∧ ∀ i, i < 12 → f i = nI (sp t (sm w 12) w 12 i))
  have hB := bs_le t w 12
  have hT : (if (sm w 12) = 0 then 0 else t) ≤ t := by split <;> omega
  have hwi : ∀ i, i < 12 → w i < 2147483648 := fun i hi => Nat.lt_of_le_of_lt (sm_pos hi) hw
  refine r_aload_n rfl rfl ?_
  refine s_staI [.ref 48] [] rfl lkX9_395 (c_sumOf_48 h) rfl rfl (Nat.le_refl _) (Nat.le_refl _) rfl (rI (e1 := nI (sm w 12)) rfl ?_)
  refine r_istore_n (lv' := [(3, .int (nI (sm w 12))), (0, .int (nI t)), (1, .ref 48), (2, .ref 49)]) rfl rfl (Nat.le_of_ble_eq_true rfl) rfl ?_
  refine r_iload_n rfl rfl ?_
  suffices K : Ws z sc mX9_split 0 0 0 0 14 [(3, .int (nI (sm w 12))), (0, .int (nI t)), (1, .ref 48), (2, .ref 49)] [.int (nI ((if (sm w 12) = 0 then 0 else t)))] (mz σ [] []) (RV fun σ' => ∃ f, σ' = mz σ [(49, f)] [] ∧ ∀ i, i < 12 → f i = nI (sp t (sm w 12) w 12 i)) by
    refine n_if_le (tgt := 13) rfl rfl (by omega) (fun h1 => ?_) (fun h1 => ?_)
    · refine n_iconst 0 rfl ?_
      exact r_top (by rw [if_pos h1]) K
    · refine r_iload_n rfl rfl ?_
      refine r_goto (tgt := 14) rfl rfl ?_
      exact r_top (by rw [if_neg (by omega)]) K
  refine r_istore (lv' := [(4, .int (nI ((if (sm w 12) = 0 then 0 else t)))), (3, .int (nI (sm w 12))), (0, .int (nI t)), (1, .ref 48), (2, .ref 49)]) rfl (Nat.le_of_ble_eq_true rfl) rfl ?_
  refine n_iconst 0 rfl ?_
  refine r_istore (lv' := [(5, .int (nI 0)), (4, .int (nI ((if (sm w 12) = 0 then 0 else t)))), (3, .int (nI (sm w 12))), (0, .int (nI t)), (1, .ref 48), (2, .ref 49)]) rfl (Nat.le_of_ble_eq_true rfl) rfl ?_
  refine r_lv (lv' := [(5, .int (nI 0)), (4, .int (nI ((if (sm w 12) = 0 then 0 else t)))), (0, .int (nI t)), (1, .ref 48), (2, .ref 49), (3, .int (nI (sm w 12)))]) [0, 1, 3, 4, 5, 2] rfl ?_
  refine m_newI (L' := [(49, (σ.1 49))]) 49 rfl ?_
  have loop : ∀ (m9 : Nat) (i : Nat) (f : Nat → Int32), 12 - i < m9 → (i ≤ 12) → (∀ j, j < i → f j = nI (bs t (sm w 12) w j)) → Ws z sc mX9_split 0 0 0 0 19 [(5, .int (nI i)), (4, .int (nI ((if (sm w 12) = 0 then 0 else t) - sm (bs t (sm w 12) w) i))), (0, .int (nI t)), (1, .ref 48), (2, .ref 49), (3, .int (nI (sm w 12)))] [] (mz σ [(49, f)] []) (RV fun σ' => ∃ f, σ' = mz σ [(49, f)] [] ∧ ∀ i, i < 12 → f i = nI (sp t (sm w 12) w 12 i)) := by
    intro m9
    induction m9 with
    | zero => intro i f hme; exact absurd hme (Nat.not_lt_zero _)
    | succ m9 ih =>
      intro i f hme hi hf
      refine r_iload rfl rfl ?_
      refine r_aload_n rfl rfl ?_
      refine s_alen rfl rfl ?_
      refine n_icmp_ge (tgt := 61) rfl rfl (by omega) (by omega) (fun h1 => ?_) (fun h1 => ?_)
      · rw [show i = 12 by omega] at hf ⊢
        refine n_iconst 0 rfl ?_
        refine r_istore (lv' := [(5, .int (nI 0)), (4, .int (nI ((if (sm w 12) = 0 then 0 else t) - sm (bs t (sm w 12) w) 12))), (0, .int (nI t)), (1, .ref 48), (2, .ref 49), (3, .int (nI (sm w 12)))]) rfl (Nat.le_of_ble_eq_true rfl) rfl ?_
        refine r_lv (lv' := [(5, .int (nI 0)), (4, .int (nI ((if (sm w 12) = 0 then 0 else t) - sm (bs t (sm w 12) w) 12))), (0, .int (nI t)), (1, .ref 48), (2, .ref 49), (3, .int (nI (sm w 12)))]) [0, 1, 2, 3, 4, 5] rfl ?_
        have loop2 : ∀ (m9_2 : Nat) (i2 : Nat) (g : Nat → Int32), 12 - i2 < m9_2 → (i2 ≤ 12) → (∀ j, j < 12 → g j = nI (if j < i2 then sp t (sm w 12) w 12 j else bs t (sm w 12) w j)) → Ws z sc mX9_split 0 0 0 0 64 [(5, .int (nI i2)), (4, .int (nI (rm t (sm w 12) w 12 i2))), (0, .int (nI t)), (1, .ref 48), (2, .ref 49), (3, .int (nI (sm w 12)))] [] (mz σ [(49, g)] []) (RV fun σ' => ∃ f, σ' = mz σ [(49, f)] [] ∧ ∀ i, i < 12 → f i = nI (sp t (sm w 12) w 12 i)) := by
          intro m9_2
          induction m9_2 with
          | zero => intro i2 g hme; exact absurd hme (Nat.not_lt_zero _)
          | succ m9_2 ih2 =>
            intro i2 g hme hi2 hg
            have hR := rm_le t (sm w 12) w 12 i2
            refine r_iload rfl rfl ?_
            refine r_aload_n rfl rfl ?_
            refine s_alen rfl rfl ?_
            refine n_icmp_ge (tgt := 107) rfl rfl (by omega) (by omega) (fun h2 => ?_) (fun h2 => ?_)
            · exact s_vret (st := []) rfl rfl (Nat.zero_le _) (Nat.zero_le _) (⟨rfl, g, rfl, fun j hj => by rw [hg j hj, if_pos (by omega)]⟩)
            · have hw2 := hwi i2 (by omega)
              refine r_iload rfl rfl ?_
              refine r_aload_n rfl rfl ?_
              refine s_alen rfl rfl ?_
              refine n_icmp_ge (tgt := 107) rfl rfl (by omega) (by omega) (fun hq => absurd hq (by omega)) (fun _ => ?_)
              refine r_iload rfl rfl ?_
              refine n_if_le (tgt := 101) rfl rfl (by omega) (fun h3 => ?_) (fun h3 => ?_)
              · refine n_iinc (lv' := [(5, .int (nI (i2 + 1))), (4, .int (nI (rm t (sm w 12) w 12 i2))), (0, .int (nI t)), (1, .ref 48), (2, .ref 49), (3, .int (nI (sm w 12)))]) 1 rfl rfl (Nat.le_of_ble_eq_true rfl) rfl ?_
                refine r_goto (tgt := 64) rfl rfl ?_
                have hz : ¬ (0 < rm t (sm w 12) w 12 i2 ∧ 0 < w i2) := by omega
                have e1 : rm t (sm w 12) w 12 (i2 + 1) = rm t (sm w 12) w 12 i2 := if_neg hz
                have e2 : sp t (sm w 12) w 12 i2 = bs t (sm w 12) w i2 := by show bs t (sm w 12) w i2 + tb (decide _) = _; rw [decide_eq_false hz]; rfl
                rw [← e1]
                refine r_lv (lv' := [(5, .int (nI (i2 + 1))), (4, .int (nI (rm t (sm w 12) w 12 (i2 + 1)))), (0, .int (nI t)), (1, .ref 48), (2, .ref 49), (3, .int (nI (sm w 12)))]) [0, 1, 2, 3, 4, 5] rfl ?_
                exact ih2 (i2 + 1) g (by omega) (by omega) (fun j hj => by rw [hg j hj, ifs_e e2 j])
              · refine r_aload_n rfl rfl ?_
                refine r_iload rfl rfl ?_
                refine s_iald (x := nI (w i2)) rfl rfl (by omega) (h _ (by omega)) ?_
                refine n_if_le (tgt := 101) rfl rfl (by omega) (fun h4 => ?_) (fun h4 => ?_)
                · refine n_iinc (lv' := [(5, .int (nI (i2 + 1))), (4, .int (nI (rm t (sm w 12) w 12 i2))), (0, .int (nI t)), (1, .ref 48), (2, .ref 49), (3, .int (nI (sm w 12)))]) 1 rfl rfl (Nat.le_of_ble_eq_true rfl) rfl ?_
                  refine r_goto (tgt := 64) rfl rfl ?_
                  have hz : ¬ (0 < rm t (sm w 12) w 12 i2 ∧ 0 < w i2) := by omega
                  have e1 : rm t (sm w 12) w 12 (i2 + 1) = rm t (sm w 12) w 12 i2 := if_neg hz
                  have e2 : sp t (sm w 12) w 12 i2 = bs t (sm w 12) w i2 := by show bs t (sm w 12) w i2 + tb (decide _) = _; rw [decide_eq_false hz]; rfl
                  rw [← e1]
                  refine r_lv (lv' := [(5, .int (nI (i2 + 1))), (4, .int (nI (rm t (sm w 12) w 12 (i2 + 1)))), (0, .int (nI t)), (1, .ref 48), (2, .ref 49), (3, .int (nI (sm w 12)))]) [0, 1, 2, 3, 4, 5] rfl ?_
                  exact ih2 (i2 + 1) g (by omega) (by omega) (fun j hj => by rw [hg j hj, ifs_e e2 j])
                · have hz : 0 < rm t (sm w 12) w 12 i2 ∧ 0 < w i2 := by omega
                  have e1 : rm t (sm w 12) w 12 (i2 + 1) = rm t (sm w 12) w 12 i2 - 1 := if_pos hz
                  have e2 : sp t (sm w 12) w 12 i2 = bs t (sm w 12) w i2 + 1 := by show bs t (sm w 12) w i2 + tb (decide _) = _; rw [decide_eq_true hz]; rfl
                  refine r_aload_n rfl rfl ?_
                  refine r_iload rfl rfl ?_
                  refine r_dup2 rfl rfl rfl ?_
                  refine s_iald (x := nI (bs t (sm w 12) w i2)) rfl rfl (by omega) (by have := hg i2 (by omega); rw [if_neg (Nat.lt_irrefl _)] at this; exact this) ?_
                  refine n_iconst 1 rfl ?_
                  refine n_iadd rfl ?_
                  refine m_iast (L' := [(49, (aup g i2 (nI ((bs t (sm w 12) w i2) + 1))))]) rfl rfl (by omega) rfl ?_
                  have e3 : rm t (sm w 12) w 12 i2 = rm t (sm w 12) w 12 (i2 + 1) + 1 := by omega
                  rw [e3]
                  refine n_iincD (lv' := [(4, .int (nI (rm t (sm w 12) w 12 (i2 + 1)))), (5, .int (nI i2)), (0, .int (nI t)), (1, .ref 48), (2, .ref 49), (3, .int (nI (sm w 12)))]) rfl rfl (Nat.le_of_ble_eq_true rfl) rfl ?_
                  refine n_iinc (lv' := [(5, .int (nI (i2 + 1))), (4, .int (nI (rm t (sm w 12) w 12 (i2 + 1)))), (0, .int (nI t)), (1, .ref 48), (2, .ref 49), (3, .int (nI (sm w 12)))]) 1 rfl rfl (Nat.le_of_ble_eq_true rfl) rfl ?_
                  refine r_goto (tgt := 64) rfl rfl ?_
                  refine r_lv (lv' := [(5, .int (nI (i2 + 1))), (4, .int (nI (rm t (sm w 12) w 12 (i2 + 1)))), (0, .int (nI t)), (1, .ref 48), (2, .ref 49), (3, .int (nI (sm w 12)))]) [0, 1, 2, 3, 4, 5] rfl ?_
                  exact ih2 (i2 + 1) _ (by omega) (by omega) (aup_all hg (by rw [ifs_s, e2]) (fun j _ q => by rw [ifs_n q]))
        exact loop2 13 0 f (by omega) (by omega) (fun j hj => by rw [if_neg (by omega)]; exact hf j hj)
      · refine r_iload rfl rfl ?_
        refine r_aload_n rfl rfl ?_
        refine s_alen rfl rfl ?_
        refine n_icmp_ge (tgt := 61) rfl rfl (by omega) (by omega) (fun hq => absurd hq (by omega)) (fun _ => ?_)
        refine r_aload_n rfl rfl ?_
        refine r_iload rfl rfl ?_
        refine r_iload_n rfl rfl ?_
        refine r_aload_n rfl rfl ?_
        refine r_iload rfl rfl ?_
        refine s_iald (x := nI (w i)) rfl rfl (by omega) (h _ (by omega)) ?_
        refine r_iload_n rfl rfl ?_
        have hwq := hwi i (by omega)
        have hBi : sm (bs t (sm w 12) w) (i + 1) = sm (bs t (sm w 12) w) i + bs t (sm w 12) w i := rfl
        have hBm := sm_mono (f := bs t (sm w 12) w) (show i + 1 ≤ 12 by omega)
        refine s_staI [.int (nI t), .int (nI (w i)), .int (nI (sm w 12))] [.int (nI i), .ref 49] rfl lkX9_399 (c_portion (by omega) hwq hw) rfl rfl (Nat.le_refl _) (Nat.le_refl _) rfl (rI (e1 := nI (bs t (sm w 12) w i)) rfl ?_)
        refine m_iast (L' := [(49, (aup f i (nI (bs t (sm w 12) w i))))]) rfl rfl (by omega) rfl ?_
        refine r_iload rfl rfl ?_
        refine r_aload_n rfl rfl ?_
        refine r_iload rfl rfl ?_
        refine s_iald (x := nI (bs t (sm w 12) w i)) rfl rfl (by omega) (aup_s _ _ _) ?_
        refine n_isub rfl (by omega) ?_
        refine r_istore (lv' := [(4, .int (nI (((if (sm w 12) = 0 then 0 else t) - sm (bs t (sm w 12) w) i) - (bs t (sm w 12) w i)))), (5, .int (nI i)), (0, .int (nI t)), (1, .ref 48), (2, .ref 49), (3, .int (nI (sm w 12)))]) rfl (Nat.le_of_ble_eq_true rfl) rfl ?_
        refine n_iinc (lv' := [(5, .int (nI (i + 1))), (4, .int (nI (((if (sm w 12) = 0 then 0 else t) - sm (bs t (sm w 12) w) i) - (bs t (sm w 12) w i)))), (0, .int (nI t)), (1, .ref 48), (2, .ref 49), (3, .int (nI (sm w 12)))]) 1 rfl rfl (Nat.le_of_ble_eq_true rfl) rfl ?_
        refine r_goto (tgt := 19) rfl rfl ?_
        rw [show (if (sm w 12) = 0 then 0 else t) - sm (bs t (sm w 12) w) i - bs t (sm w 12) w i = (if (sm w 12) = 0 then 0 else t) - sm (bs t (sm w 12) w) (i + 1) by omega]
        refine r_lv (lv' := [(5, .int (nI (i + 1))), (4, .int (nI ((if (sm w 12) = 0 then 0 else t) - sm (bs t (sm w 12) w) (i + 1)))), (0, .int (nI t)), (1, .ref 48), (2, .ref 49), (3, .int (nI (sm w 12)))]) [0, 1, 2, 3, 4, 5] rfl ?_
        exact ih (i + 1) _ (by omega) (by omega) (aup_lt hf rfl)
  exact loop 13 0 _ (by omega) (by omega) (fun j hj => absurd hj (Nat.not_lt_zero _))

