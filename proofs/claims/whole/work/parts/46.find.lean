theorem k_bytesOf {l9 : Bool} {sc : SC} {σ : SS} {x : TX} {v : Int32} (h6 : σ.1 53 6 = nI x.1) (hT : TR (σ.1 58) x) (hx : x.1 + 4 ≤ 700) : Cs (true, l9) sc mX10_bytesOf 0 0 [.ref 53, .int v] σ (RV fun σ' => ∃ f53 f58, σ' = mz σ [(58, f58), (53, f53)] [] ∧ (f53 6 = nI (ad4 x v).1 ∧ ∀ k, k ≠ 6 → f53 k = σ.1 53 k) ∧ TR f58 (ad4 x v)) := by
  refine Cs.of gmX10_bytesOf (Nat.le_of_ble_eq_true rfl) ?_
  show Ws (true, l9) sc mX10_bytesOf 0 0 0 0 0 [(0, .ref 53), (1, .int v)] [] (mz σ [] []) (RV fun σ' => ∃ f53 f58, σ' = mz σ [(58, f58), (53, f53)] [] ∧ (f53 6 = nI (ad4 x v).1 ∧ ∀ k, k ≠ 6 → f53 k = σ.1 53 k) ∧ TR f58 (ad4 x v))
  refine n_bipush 24 rfl (by decide) ?_
  refine r_istore_n (lv' := [(2, .int (nI 24)), (0, .ref 53), (1, .int v)]) rfl rfl (Nat.le_of_ble_eq_true rfl) rfl ?_
  refine r_iload_n rfl rfl ?_
  refine n_if_lt (tgt := 36) rfl rfl (by decide) (fun hq => hq.elim) (fun _ => ?_)
  refine r_aload_n rfl rfl ?_
  refine s_getR (r := 58) rfl flX10_23 rfl rfl ?_
  refine r_aload_n rfl rfl ?_
  refine s_getI (x := nI x.1) rfl flX10_92 rfl rfl h6 ?_
  refine r_iload_n rfl rfl ?_
  refine r_iload_n rfl rfl ?_
  refine r_ishr rfl ?_
  refine r_i2b rfl rfl ?_
  refine m_bast (L' := [(58, (aup (σ.1 58) x.1 (vp_nar .byte ((v >>> ((nI 24) &&& 31)).toInt8.toInt32))))]) rfl rfl (by omega) rfl ?_
  refine r_aload_n rfl rfl ?_
  refine r_dup rfl rfl ?_
  refine s_getI (x := nI x.1) rfl flX10_92 rfl rfl h6 ?_
  refine n_iconst 1 rfl ?_
  refine n_iadd rfl ?_
  refine m_putI (L' := [(58, (aup (σ.1 58) x.1 (vp_nar .byte ((v >>> ((nI 24) &&& 31)).toInt8.toInt32)))), (53, (aup (σ.1 53) 6 (nI (x.1 + 1))))]) rfl flX10_92 rfl rfl (okv_i _) rfl ?_
  refine r_iinc (lv' := [(2, .int (nI 16)), (0, .ref 53), (1, .int v)]) rfl rfl (by decide) (Nat.le_of_ble_eq_true rfl) rfl ?_
  refine r_goto (tgt := 3) rfl rfl ?_
  refine r_iload_n rfl rfl ?_
  refine n_if_lt (tgt := 36) rfl rfl (by decide) (fun hq => hq.elim) (fun _ => ?_)
  refine r_aload_n rfl rfl ?_
  refine s_getR (r := 58) rfl flX10_23 rfl rfl ?_
  refine r_aload_n rfl rfl ?_
  refine s_getI (x := nI (x.1 + 1)) rfl flX10_92 rfl rfl rfl ?_
  refine r_iload_n rfl rfl ?_
  refine r_iload_n rfl rfl ?_
  refine r_ishr rfl ?_
  refine r_i2b rfl rfl ?_
  refine m_bast (L' := [(58, (aup (aup (σ.1 58) x.1 (vp_nar .byte ((v >>> ((nI 24) &&& 31)).toInt8.toInt32))) (x.1 + 1) (vp_nar .byte ((v >>> ((nI 16) &&& 31)).toInt8.toInt32)))), (53, (aup (σ.1 53) 6 (nI (x.1 + 1))))]) rfl rfl (by omega) rfl ?_
  refine r_aload_n rfl rfl ?_
  refine r_dup rfl rfl ?_
  refine s_getI (x := nI (x.1 + 1)) rfl flX10_92 rfl rfl rfl ?_
  refine n_iconst 1 rfl ?_
  refine n_iadd rfl ?_
  refine m_putI (L' := [(58, (aup (aup (σ.1 58) x.1 (vp_nar .byte ((v >>> ((nI 24) &&& 31)).toInt8.toInt32))) (x.1 + 1) (vp_nar .byte ((v >>> ((nI 16) &&& 31)).toInt8.toInt32)))), (53, (aup (aup (σ.1 53) 6 (nI (x.1 + 1))) 6 (nI ((x.1 + 1) + 1))))]) rfl flX10_92 rfl rfl (okv_i _) rfl ?_
  refine r_iinc (lv' := [(2, .int (nI 8)), (0, .ref 53), (1, .int v)]) rfl rfl (by decide) (Nat.le_of_ble_eq_true rfl) rfl ?_
  refine r_goto (tgt := 3) rfl rfl ?_
  refine r_iload_n rfl rfl ?_
  refine n_if_lt (tgt := 36) rfl rfl (by decide) (fun hq => hq.elim) (fun _ => ?_)
  refine r_aload_n rfl rfl ?_
  refine s_getR (r := 58) rfl flX10_23 rfl rfl ?_
  refine r_aload_n rfl rfl ?_
  refine s_getI (x := nI ((x.1 + 1) + 1)) rfl flX10_92 rfl rfl rfl ?_
  refine r_iload_n rfl rfl ?_
  refine r_iload_n rfl rfl ?_
  refine r_ishr rfl ?_
  refine r_i2b rfl rfl ?_
  refine m_bast (L' := [(58, (aup (aup (aup (σ.1 58) x.1 (vp_nar .byte ((v >>> ((nI 24) &&& 31)).toInt8.toInt32))) (x.1 + 1) (vp_nar .byte ((v >>> ((nI 16) &&& 31)).toInt8.toInt32))) ((x.1 + 1) + 1) (vp_nar .byte ((v >>> ((nI 8) &&& 31)).toInt8.toInt32)))), (53, (aup (aup (σ.1 53) 6 (nI (x.1 + 1))) 6 (nI ((x.1 + 1) + 1))))]) rfl rfl (by omega) rfl ?_
  refine r_aload_n rfl rfl ?_
  refine r_dup rfl rfl ?_
  refine s_getI (x := nI ((x.1 + 1) + 1)) rfl flX10_92 rfl rfl rfl ?_
  refine n_iconst 1 rfl ?_
  refine n_iadd rfl ?_
  refine m_putI (L' := [(58, (aup (aup (aup (σ.1 58) x.1 (vp_nar .byte ((v >>> ((nI 24) &&& 31)).toInt8.toInt32))) (x.1 + 1) (vp_nar .byte ((v >>> ((nI 16) &&& 31)).toInt8.toInt32))) ((x.1 + 1) + 1) (vp_nar .byte ((v >>> ((nI 8) &&& 31)).toInt8.toInt32)))), (53, (aup (aup (aup (σ.1 53) 6 (nI (x.1 + 1))) 6 (nI ((x.1 + 1) + 1))) 6 (nI (((x.1 + 1) + 1) + 1))))]) rfl flX10_92 rfl rfl (okv_i _) rfl ?_
  refine r_iinc (lv' := [(2, .int (nI 0)), (0, .ref 53), (1, .int v)]) rfl rfl (by decide) (Nat.le_of_ble_eq_true rfl) rfl ?_
  refine r_goto (tgt := 3) rfl rfl ?_
  refine r_iload_n rfl rfl ?_
  refine n_if_lt (tgt := 36) rfl rfl (by decide) (fun hq => hq.elim) (fun _ => ?_)
  refine r_aload_n rfl rfl ?_
  refine s_getR (r := 58) rfl flX10_23 rfl rfl ?_
  refine r_aload_n rfl rfl ?_
  refine s_getI (x := nI (((x.1 + 1) + 1) + 1)) rfl flX10_92 rfl rfl rfl ?_
  refine r_iload_n rfl rfl ?_
  refine r_iload_n rfl rfl ?_
  refine r_ishr rfl ?_
  refine r_i2b rfl rfl ?_
  refine m_bast (L' := [(58, (aup (aup (aup (aup (σ.1 58) x.1 (vp_nar .byte ((v >>> ((nI 24) &&& 31)).toInt8.toInt32))) (x.1 + 1) (vp_nar .byte ((v >>> ((nI 16) &&& 31)).toInt8.toInt32))) ((x.1 + 1) + 1) (vp_nar .byte ((v >>> ((nI 8) &&& 31)).toInt8.toInt32))) (((x.1 + 1) + 1) + 1) (vp_nar .byte ((v >>> ((nI 0) &&& 31)).toInt8.toInt32)))), (53, (aup (aup (aup (σ.1 53) 6 (nI (x.1 + 1))) 6 (nI ((x.1 + 1) + 1))) 6 (nI (((x.1 + 1) + 1) + 1))))]) rfl rfl (by omega) rfl ?_
  refine r_aload_n rfl rfl ?_
  refine r_dup rfl rfl ?_
  refine s_getI (x := nI (((x.1 + 1) + 1) + 1)) rfl flX10_92 rfl rfl rfl ?_
  refine n_iconst 1 rfl ?_
  refine n_iadd rfl ?_
  refine m_putI (L' := [(58, (aup (aup (aup (aup (σ.1 58) x.1 (vp_nar .byte ((v >>> ((nI 24) &&& 31)).toInt8.toInt32))) (x.1 + 1) (vp_nar .byte ((v >>> ((nI 16) &&& 31)).toInt8.toInt32))) ((x.1 + 1) + 1) (vp_nar .byte ((v >>> ((nI 8) &&& 31)).toInt8.toInt32))) (((x.1 + 1) + 1) + 1) (vp_nar .byte ((v >>> ((nI 0) &&& 31)).toInt8.toInt32)))), (53, (aup (aup (aup (aup (σ.1 53) 6 (nI (x.1 + 1))) 6 (nI ((x.1 + 1) + 1))) 6 (nI (((x.1 + 1) + 1) + 1))) 6 (nI ((((x.1 + 1) + 1) + 1) + 1))))]) rfl flX10_92 rfl rfl (okv_i _) rfl ?_
  refine r_iinc (v := -8) (lv' := [(2, .int (-8)), (0, .ref 53), (1, .int v)]) rfl rfl (by decide) (Nat.le_of_ble_eq_true rfl) rfl ?_
  refine r_goto (tgt := 3) rfl rfl ?_
  refine r_iload_n rfl rfl ?_
  refine r_if_lt (tgt := 36) rfl rfl (fun _ => ?_) (fun hq => absurd hq (by decide))
  exact s_vret (st := []) rfl rfl (Nat.zero_le _) (Nat.zero_le _) (⟨rfl, _, _, rfl, ⟨rfl, fun k hk => by rw [aup_n _ _ hk, aup_n _ _ hk, aup_n _ _ hk, aup_n _ _ hk]⟩, TR_up (TR_up (TR_up (TR_up hT (by4_n v 24)) (by4_n v 16)) (by4_n v 8)) (by4_n v 0)⟩)

theorem c_add {z : SZ} {sc : SC} {σ : SS} {x : TX} {v : Int32} (h6 : σ.1 2 1 = nI x.1) (hT : TR (σ.1 3) x) (hx : x.1 + 4 ≤ 700) : Cs z sc mX1_add 0 0 [.ref 2, .int v] σ (RV fun σ' => ∃ f2 f3, σ' = mz σ [(3, f3), (2, f2)] [] ∧ f2 1 = nI (ad4 x v).1 ∧ TR f3 (ad4 x v)) := by
  refine Cs.of gmX1_add (Nat.le_of_ble_eq_true rfl) ?_
  show Ws z sc mX1_add 0 0 0 0 0 [(0, .ref 2), (1, .int v)] [] (mz σ [] []) (RV fun σ' => ∃ f2 f3, σ' = mz σ [(3, f3), (2, f2)] [] ∧ f2 1 = nI (ad4 x v).1 ∧ TR f3 (ad4 x v))
  refine n_bipush 24 rfl (by decide) ?_
  refine r_istore_n (lv' := [(2, .int (nI 24)), (0, .ref 2), (1, .int v)]) rfl rfl (Nat.le_of_ble_eq_true rfl) rfl ?_
  refine r_iload_n rfl rfl ?_
  refine n_if_lt (tgt := 55) rfl rfl (by decide) (fun hq => hq.elim) (fun _ => ?_)
  refine r_aload_n rfl rfl ?_
  refine s_getI (x := nI x.1) rfl flX1_15 rfl rfl h6 ?_
  refine n_if_lt (tgt := 49) rfl rfl (by omega) (fun hq => hq.elim) (fun _ => ?_)
  refine r_aload_n rfl rfl ?_
  refine s_getI (x := nI x.1) rfl flX1_15 rfl rfl h6 ?_
  refine r_aload_n rfl rfl ?_
  refine s_getR (r := 3) rfl flX1_9 rfl rfl ?_
  refine s_alenB rfl rfl ?_
  refine n_icmp_ge (tgt := 49) rfl rfl (by omega) (by omega) (fun hq => absurd hq (by omega)) (fun _ => ?_)
  refine r_aload_n rfl rfl ?_
  refine s_getR (r := 3) rfl flX1_9 rfl rfl ?_
  refine r_aload_n rfl rfl ?_
  refine s_getI (x := nI x.1) rfl flX1_15 rfl rfl h6 ?_
  refine r_iload_n rfl rfl ?_
  refine r_iload_n rfl rfl ?_
  refine r_ishr rfl ?_
  refine r_i2b rfl rfl ?_
  refine m_bast (L' := [(3, (aup (σ.1 3) x.1 (vp_nar .byte ((v >>> ((nI 24) &&& 31)).toInt8.toInt32))))]) rfl rfl (by omega) rfl ?_
  refine r_aload_n rfl rfl ?_
  refine r_dup rfl rfl ?_
  refine s_getI (x := nI x.1) rfl flX1_15 rfl rfl h6 ?_
  refine n_iconst 1 rfl ?_
  refine n_iadd rfl ?_
  refine m_putI (L' := [(3, (aup (σ.1 3) x.1 (vp_nar .byte ((v >>> ((nI 24) &&& 31)).toInt8.toInt32)))), (2, (aup (σ.1 2) 1 (nI (x.1 + 1))))]) rfl flX1_15 rfl rfl (okv_i _) rfl ?_
  refine r_iinc (lv' := [(2, .int (nI 16)), (0, .ref 2), (1, .int v)]) rfl rfl (by decide) (Nat.le_of_ble_eq_true rfl) rfl ?_
  refine r_goto (tgt := 3) rfl rfl ?_
  refine r_iload_n rfl rfl ?_
  refine n_if_lt (tgt := 55) rfl rfl (by decide) (fun hq => hq.elim) (fun _ => ?_)
  refine r_aload_n rfl rfl ?_
  refine s_getI (x := nI (x.1 + 1)) rfl flX1_15 rfl rfl rfl ?_
  refine n_if_lt (tgt := 49) rfl rfl (by omega) (fun hq => hq.elim) (fun _ => ?_)
  refine r_aload_n rfl rfl ?_
  refine s_getI (x := nI (x.1 + 1)) rfl flX1_15 rfl rfl rfl ?_
  refine r_aload_n rfl rfl ?_
  refine s_getR (r := 3) rfl flX1_9 rfl rfl ?_
  refine s_alenB rfl rfl ?_
  refine n_icmp_ge (tgt := 49) rfl rfl (by omega) (by omega) (fun hq => absurd hq (by omega)) (fun _ => ?_)
  refine r_aload_n rfl rfl ?_
  refine s_getR (r := 3) rfl flX1_9 rfl rfl ?_
  refine r_aload_n rfl rfl ?_
  refine s_getI (x := nI (x.1 + 1)) rfl flX1_15 rfl rfl rfl ?_
  refine r_iload_n rfl rfl ?_
  refine r_iload_n rfl rfl ?_
  refine r_ishr rfl ?_
  refine r_i2b rfl rfl ?_
  refine m_bast (L' := [(3, (aup (aup (σ.1 3) x.1 (vp_nar .byte ((v >>> ((nI 24) &&& 31)).toInt8.toInt32))) (x.1 + 1) (vp_nar .byte ((v >>> ((nI 16) &&& 31)).toInt8.toInt32)))), (2, (aup (σ.1 2) 1 (nI (x.1 + 1))))]) rfl rfl (by omega) rfl ?_
  refine r_aload_n rfl rfl ?_
  refine r_dup rfl rfl ?_
  refine s_getI (x := nI (x.1 + 1)) rfl flX1_15 rfl rfl rfl ?_
  refine n_iconst 1 rfl ?_
  refine n_iadd rfl ?_
  refine m_putI (L' := [(3, (aup (aup (σ.1 3) x.1 (vp_nar .byte ((v >>> ((nI 24) &&& 31)).toInt8.toInt32))) (x.1 + 1) (vp_nar .byte ((v >>> ((nI 16) &&& 31)).toInt8.toInt32)))), (2, (aup (aup (σ.1 2) 1 (nI (x.1 + 1))) 1 (nI ((x.1 + 1) + 1))))]) rfl flX1_15 rfl rfl (okv_i _) rfl ?_
  refine r_iinc (lv' := [(2, .int (nI 8)), (0, .ref 2), (1, .int v)]) rfl rfl (by decide) (Nat.le_of_ble_eq_true rfl) rfl ?_
  refine r_goto (tgt := 3) rfl rfl ?_
  refine r_iload_n rfl rfl ?_
  refine n_if_lt (tgt := 55) rfl rfl (by decide) (fun hq => hq.elim) (fun _ => ?_)
  refine r_aload_n rfl rfl ?_
  refine s_getI (x := nI ((x.1 + 1) + 1)) rfl flX1_15 rfl rfl rfl ?_
  refine n_if_lt (tgt := 49) rfl rfl (by omega) (fun hq => hq.elim) (fun _ => ?_)
  refine r_aload_n rfl rfl ?_
  refine s_getI (x := nI ((x.1 + 1) + 1)) rfl flX1_15 rfl rfl rfl ?_
  refine r_aload_n rfl rfl ?_
  refine s_getR (r := 3) rfl flX1_9 rfl rfl ?_
  refine s_alenB rfl rfl ?_
  refine n_icmp_ge (tgt := 49) rfl rfl (by omega) (by omega) (fun hq => absurd hq (by omega)) (fun _ => ?_)
  refine r_aload_n rfl rfl ?_
  refine s_getR (r := 3) rfl flX1_9 rfl rfl ?_
  refine r_aload_n rfl rfl ?_
  refine s_getI (x := nI ((x.1 + 1) + 1)) rfl flX1_15 rfl rfl rfl ?_
  refine r_iload_n rfl rfl ?_
  refine r_iload_n rfl rfl ?_
  refine r_ishr rfl ?_
  refine r_i2b rfl rfl ?_
  refine m_bast (L' := [(3, (aup (aup (aup (σ.1 3) x.1 (vp_nar .byte ((v >>> ((nI 24) &&& 31)).toInt8.toInt32))) (x.1 + 1) (vp_nar .byte ((v >>> ((nI 16) &&& 31)).toInt8.toInt32))) ((x.1 + 1) + 1) (vp_nar .byte ((v >>> ((nI 8) &&& 31)).toInt8.toInt32)))), (2, (aup (aup (σ.1 2) 1 (nI (x.1 + 1))) 1 (nI ((x.1 + 1) + 1))))]) rfl rfl (by omega) rfl ?_
  refine r_aload_n rfl rfl ?_
  refine r_dup rfl rfl ?_
  refine s_getI (x := nI ((x.1 + 1) + 1)) rfl flX1_15 rfl rfl rfl ?_
  refine n_iconst 1 rfl ?_
  refine n_iadd rfl ?_
  refine m_putI (L' := [(3, (aup (aup (aup (σ.1 3) x.1 (vp_nar .byte ((v >>> ((nI 24) &&& 31)).toInt8.toInt32))) (x.1 + 1) (vp_nar .byte ((v >>> ((nI 16) &&& 31)).toInt8.toInt32))) ((x.1 + 1) + 1) (vp_nar .byte ((v >>> ((nI 8) &&& 31)).toInt8.toInt32)))), (2, (aup (aup (aup (σ.1 2) 1 (nI (x.1 + 1))) 1 (nI ((x.1 + 1) + 1))) 1 (nI (((x.1 + 1) + 1) + 1))))]) rfl flX1_15 rfl rfl (okv_i _) rfl ?_
  refine r_iinc (lv' := [(2, .int (nI 0)), (0, .ref 2), (1, .int v)]) rfl rfl (by decide) (Nat.le_of_ble_eq_true rfl) rfl ?_
  refine r_goto (tgt := 3) rfl rfl ?_
  refine r_iload_n rfl rfl ?_
  refine n_if_lt (tgt := 55) rfl rfl (by decide) (fun hq => hq.elim) (fun _ => ?_)
  refine r_aload_n rfl rfl ?_
  refine s_getI (x := nI (((x.1 + 1) + 1) + 1)) rfl flX1_15 rfl rfl rfl ?_
  refine n_if_lt (tgt := 49) rfl rfl (by omega) (fun hq => hq.elim) (fun _ => ?_)
  refine r_aload_n rfl rfl ?_
  refine s_getI (x := nI (((x.1 + 1) + 1) + 1)) rfl flX1_15 rfl rfl rfl ?_
  refine r_aload_n rfl rfl ?_
  refine s_getR (r := 3) rfl flX1_9 rfl rfl ?_
  refine s_alenB rfl rfl ?_
  refine n_icmp_ge (tgt := 49) rfl rfl (by omega) (by omega) (fun hq => absurd hq (by omega)) (fun _ => ?_)
  refine r_aload_n rfl rfl ?_
  refine s_getR (r := 3) rfl flX1_9 rfl rfl ?_
  refine r_aload_n rfl rfl ?_
  refine s_getI (x := nI (((x.1 + 1) + 1) + 1)) rfl flX1_15 rfl rfl rfl ?_
  refine r_iload_n rfl rfl ?_
  refine r_iload_n rfl rfl ?_
  refine r_ishr rfl ?_
  refine r_i2b rfl rfl ?_
  refine m_bast (L' := [(3, (aup (aup (aup (aup (σ.1 3) x.1 (vp_nar .byte ((v >>> ((nI 24) &&& 31)).toInt8.toInt32))) (x.1 + 1) (vp_nar .byte ((v >>> ((nI 16) &&& 31)).toInt8.toInt32))) ((x.1 + 1) + 1) (vp_nar .byte ((v >>> ((nI 8) &&& 31)).toInt8.toInt32))) (((x.1 + 1) + 1) + 1) (vp_nar .byte ((v >>> ((nI 0) &&& 31)).toInt8.toInt32)))), (2, (aup (aup (aup (σ.1 2) 1 (nI (x.1 + 1))) 1 (nI ((x.1 + 1) + 1))) 1 (nI (((x.1 + 1) + 1) + 1))))]) rfl rfl (by omega) rfl ?_
  refine r_aload_n rfl rfl ?_
  refine r_dup rfl rfl ?_
  refine s_getI (x := nI (((x.1 + 1) + 1) + 1)) rfl flX1_15 rfl rfl rfl ?_
  refine n_iconst 1 rfl ?_
  refine n_iadd rfl ?_
  refine m_putI (L' := [(3, (aup (aup (aup (aup (σ.1 3) x.1 (vp_nar .byte ((v >>> ((nI 24) &&& 31)).toInt8.toInt32))) (x.1 + 1) (vp_nar .byte ((v >>> ((nI 16) &&& 31)).toInt8.toInt32))) ((x.1 + 1) + 1) (vp_nar .byte ((v >>> ((nI 8) &&& 31)).toInt8.toInt32))) (((x.1 + 1) + 1) + 1) (vp_nar .byte ((v >>> ((nI 0) &&& 31)).toInt8.toInt32)))), (2, (aup (aup (aup (aup (σ.1 2) 1 (nI (x.1 + 1))) 1 (nI ((x.1 + 1) + 1))) 1 (nI (((x.1 + 1) + 1) + 1))) 1 (nI ((((x.1 + 1) + 1) + 1) + 1))))]) rfl flX1_15 rfl rfl (okv_i _) rfl ?_
  refine r_iinc (v := -8) (lv' := [(2, .int (-8)), (0, .ref 2), (1, .int v)]) rfl rfl (by decide) (Nat.le_of_ble_eq_true rfl) rfl ?_
  refine r_goto (tgt := 3) rfl rfl ?_
  refine r_iload_n rfl rfl ?_
  refine r_if_lt (tgt := 55) rfl rfl (fun _ => ?_) (fun hq => absurd hq (by decide))
  exact s_vret (st := []) rfl rfl (Nat.zero_le _) (Nat.zero_le _) (⟨rfl, _, _, rfl, rfl, TR_up (TR_up (TR_up (TR_up hT (by4_n v 24)) (by4_n v 16)) (by4_n v 8)) (by4_n v 0)⟩)

theorem k_append {l9 : Bool} {sc : SC} {σ : SS} {a : AB} {v1 v2 v3 v4 v5 : Int32} (hA : AV a) (hI : MI9 σ a) (hl : aL a + 20 ≤ 700) : Cs (true, l9) sc mX10_append 0 0 [.ref 53, .int v1, .int v2, .int v3, .int v4, .int v5] σ (RI fun v σ' => v = nI (aL a + 20) ∧ σ'.1 53 0 = nI 0 ∧ FrC σ σ' ∧ MI9 σ' (apA a (ap5 (aL a, aT a) v1 v2 v3 v4 v5))) := by
  refine Cs.of gmX10_append (Nat.le_of_ble_eq_true rfl) ?_
  show Ws (true, l9) sc mX10_append 0 0 0 0 0 [(0, .ref 53), (1, .int v1), (2, .int v2), (3, .int v3), (4, .int v4), (5, .int v5)] [] (mz σ [] []) (RI fun v σ' => v = nI (aL a + 20) ∧ σ'.1 53 0 = nI 0 ∧ FrC σ σ' ∧ MI9 σ' (apA a (ap5 (aL a, aT a) v1 v2 v3 v4 v5)))
  refine r_aload_n rfl rfl ?_
  refine n_iconst 0 rfl ?_
  refine m_putI (L' := [(53, (aup (σ.1 53) 0 (nI 0)))]) rfl flX10_89 rfl rfl (okv_i _) rfl ?_
  refine r_aload_n rfl rfl ?_
  refine s_getI (x := nI (aL a)) rfl flX10_92 rfl rfl hI.2.1.2.1 ?_
  refine n_bipush 20 rfl (by decide) ?_
  refine n_iadd rfl ?_
  refine n_sipush 700 rfl (by decide) ?_
  refine n_icmp_le (tgt := 20) rfl rfl (by omega) (by omega) (fun _ => ?_) (fun hq => absurd hq (by omega))
  refine r_aload_n rfl rfl ?_
  refine r_iload_n rfl rfl ?_
  refine s_virV [.int v1] [] rfl lkX10_95 rfl rfl rfl (k_bytesOf (x := (aL a, aT a)) hI.2.1.2.1 hI.2.2.2.2.2.1 (by show aL a + 0 + 4 ≤ 700; omega)) rfl rfl (Nat.le_refl _) (Nat.le_refl _) rfl ?_
  rintro _ ⟨f0, e0, rfl, ⟨a0, b0⟩, t0⟩
  refine m_mz (L' := [(53, f0), (58, e0)]) (M' := []) rfl rfl ?_
  refine r_aload_n rfl rfl ?_
  refine r_iload_n rfl rfl ?_
  refine s_virV [.int v2] [] rfl lkX10_95 rfl rfl rfl (k_bytesOf (x := (ad4 (aL a, aT a) v1)) a0 t0 (by show aL a + 4 + 4 ≤ 700; omega)) rfl rfl (Nat.le_refl _) (Nat.le_refl _) rfl ?_
  rintro _ ⟨f1, e1, rfl, ⟨a1, b1⟩, t1⟩
  refine m_mz (L' := [(53, f1), (58, e1)]) (M' := []) rfl rfl ?_
  refine r_aload_n rfl rfl ?_
  refine r_iload_n rfl rfl ?_
  refine s_virV [.int v3] [] rfl lkX10_95 rfl rfl rfl (k_bytesOf (x := (ad4 (ad4 (aL a, aT a) v1) v2)) a1 t1 (by show aL a + 8 + 4 ≤ 700; omega)) rfl rfl (Nat.le_refl _) (Nat.le_refl _) rfl ?_
  rintro _ ⟨f2, e2, rfl, ⟨a2, b2⟩, t2⟩
  refine m_mz (L' := [(53, f2), (58, e2)]) (M' := []) rfl rfl ?_
  refine r_aload_n rfl rfl ?_
  refine r_iload rfl rfl ?_
  refine s_virV [.int v4] [] rfl lkX10_95 rfl rfl rfl (k_bytesOf (x := (ad4 (ad4 (ad4 (aL a, aT a) v1) v2) v3)) a2 t2 (by show aL a + 12 + 4 ≤ 700; omega)) rfl rfl (Nat.le_refl _) (Nat.le_refl _) rfl ?_
  rintro _ ⟨f3, e3, rfl, ⟨a3, b3⟩, t3⟩
  refine m_mz (L' := [(53, f3), (58, e3)]) (M' := []) rfl rfl ?_
  refine r_aload_n rfl rfl ?_
  refine r_iload rfl rfl ?_
  refine s_virV [.int v5] [] rfl lkX10_95 rfl rfl rfl (k_bytesOf (x := (ad4 (ad4 (ad4 (ad4 (aL a, aT a) v1) v2) v3) v4)) a3 t3 (by show aL a + 16 + 4 ≤ 700; omega)) rfl rfl (Nat.le_refl _) (Nat.le_refl _) rfl ?_
  rintro _ ⟨f4, e4, rfl, ⟨a4, b4⟩, t4⟩
  refine m_mz (L' := [(53, f4), (58, e4)]) (M' := []) rfl rfl ?_
  refine r_aload_n rfl rfl ?_
  refine s_getI (x := nI ((ad4 (ad4 (ad4 (ad4 (ad4 (aL a, aT a) v1) v2) v3) v4) v5).1)) rfl flX10_92 rfl rfl a4 ?_
  exact s_ret (st := []) rfl rfl rfl (Nat.zero_le _) (Nat.zero_le _) (⟨_, rfl, rfl, (b4 0 (by decide)).trans ((b3 0 (by decide)).trans ((b2 0 (by decide)).trans ((b1 0 (by decide)).trans ((b0 0 (by decide)).trans (rfl))))), FrC_mz rfl rfl, hI.1, ⟨(b4 32 (by decide)).trans ((b3 32 (by decide)).trans ((b2 32 (by decide)).trans ((b1 32 (by decide)).trans ((b0 32 (by decide)).trans (hI.2.1.1))))), a4, (b4 14 (by decide)).trans ((b3 14 (by decide)).trans ((b2 14 (by decide)).trans ((b1 14 (by decide)).trans ((b0 14 (by decide)).trans (hI.2.1.2.2)))))⟩, hI.2.2.1, hI.2.2.2.1, hI.2.2.2.2.1, t4, hI.2.2.2.2.2.2⟩)

theorem k_append_no {l9 : Bool} {sc : SC} {σ : SS} {a : AB} {v1 v2 v3 v4 v5 : Int32} (hA : AV a) (hI : MI9 σ a) (hl : ¬ aL a + 20 ≤ 700) : Cs (true, l9) sc mX10_append 0 0 [.ref 53, .int v1, .int v2, .int v3, .int v4, .int v5] σ (QM σ a (-1) 0) := by
  refine Cs.of gmX10_append (Nat.le_of_ble_eq_true rfl) ?_
  show Ws (true, l9) sc mX10_append 0 0 0 0 0 [(0, .ref 53), (1, .int v1), (2, .int v2), (3, .int v3), (4, .int v4), (5, .int v5)] [] (mz σ [] []) (QM σ a (-1) 0)
  have hL := hA.2.2.2.2.1.1
  refine r_aload_n rfl rfl ?_
  refine n_iconst 0 rfl ?_
  refine m_putI (L' := [(53, (aup (σ.1 53) 0 (nI 0)))]) rfl flX10_89 rfl rfl (okv_i _) rfl ?_
  refine r_aload_n rfl rfl ?_
  refine s_getI (x := nI (aL a)) rfl flX10_92 rfl rfl hI.2.1.2.1 ?_
  refine n_bipush 20 rfl (by decide) ?_
  refine n_iadd rfl ?_
  refine n_sipush 700 rfl (by decide) ?_
  refine n_icmp_le (tgt := 20) rfl rfl (by omega) (by omega) (fun hq => absurd hq (by omega)) (fun _ => ?_)
  refine n_m1 rfl ?_
  exact s_ret (st := []) rfl rfl rfl (Nat.zero_le _) (Nat.zero_le _) (⟨_, rfl, rfl, rfl, FrC_mz rfl rfl, ⟨hI.1, ⟨hI.2.1.1, hI.2.1.2.1, hI.2.1.2.2⟩, hI.2.2.1, hI.2.2.2.1, hI.2.2.2.2.1, hI.2.2.2.2.2.1, hI.2.2.2.2.2.2⟩⟩)

theorem c_hasRoom {z : SZ} {sc : SC} {σ : SS} {m : Nat} (h : σ.1 2 1 = nI m) (hm : m ≤ 700) : Cs z sc mX1_hasRoom 0 0 [.ref 2] σ (PI (nI (tb (decide (m + 20 ≤ 700)))) σ) := by
  refine Cs.of gmX1_hasRoom (Nat.le_of_ble_eq_true rfl) ?_
  show Ws z sc mX1_hasRoom 0 0 0 0 0 [(0, .ref 2)] [] (mz σ [] []) (PI (nI (tb (decide (m + 20 ≤ 700)))) σ)
  refine r_aload_n rfl rfl ?_
  refine s_getI (x := nI m) rfl flX1_15 rfl rfl h ?_
  refine n_bipush 20 rfl (by decide) ?_
  refine n_iadd rfl ?_
  refine n_sipush 700 rfl (by decide) ?_
  suffices K : Ws z sc mX1_hasRoom 0 0 0 0 18 [(0, .ref 2)] [.int (nI (tb (decide (m + 20 ≤ 700))))] (mz σ [] []) (PI (nI (tb (decide (m + 20 ≤ 700)))) σ) by
    refine n_icmp_gt (tgt := 17) rfl rfl (by omega) (by omega) (fun h1 => ?_) (fun h1 => ?_)
    · refine n_iconst 0 rfl ?_
      exact r_top (by rw [decide_eq_false (by omega)]; rfl) K
    · refine n_iconst 1 rfl ?_
      refine r_goto (tgt := 18) rfl rfl ?_
      exact r_top (by rw [decide_eq_true (by omega)]; rfl) K
  exact s_ret (st := []) rfl rfl (nar_tb _) (Nat.zero_le _) (Nat.zero_le _) (pI rfl rfl)

theorem c_append {z : SZ} {sc : SC} {σ : SS} {a : AB} {v1 v2 v3 v4 v5 : Int32} (hA : AV a) (hI : CI9 σ a) (hl : aL a + 20 ≤ 700) : Cs z sc mX9_append 0 0 [.ref 0, .int v1, .int v2, .int v3, .int v4, .int v5] σ (RI fun v σ' => v = nI (aL a + 20) ∧ FrM σ σ' ∧ CI9 σ' (apA a (ap5 (aL a, aT a) v1 v2 v3 v4 v5))) := by
  refine Cs.of gmX9_append (Nat.le_of_ble_eq_true rfl) ?_
  show Ws z sc mX9_append 0 0 0 0 0 [(0, .ref 0), (1, .int v1), (2, .int v2), (3, .int v3), (4, .int v4), (5, .int v5)] [] (mz σ [] []) (RI fun v σ' => v = nI (aL a + 20) ∧ FrM σ σ' ∧ CI9 σ' (apA a (ap5 (aL a, aT a) v1 v2 v3 v4 v5)))
  obtain ⟨⟨c1, c3, c4, c5, ⟨c6, c7⟩, c8, c9⟩, hSE⟩ := hI
  refine r_aload_n rfl rfl ?_
  refine s_getR (r := 1) rfl flX9_10 rfl rfl ?_
  refine s_getR (r := 2) rfl flX9_58 rfl rfl ?_
  refine s_virI [] [] rfl lkX9_62 rfl rfl rfl (c_hasRoom c6 (by omega)) rfl rfl (Nat.le_refl _) (Nat.le_refl _) rfl (rI (e1 := nI 1) (by rw [decide_eq_true hl]; rfl) ?_)
  refine n_if_ne (tgt := 15) rfl rfl (by decide) (fun _ => ?_) (fun hq => absurd hq (by decide))
  refine r_aload_n rfl rfl ?_
  refine s_getR (r := 1) rfl flX9_10 rfl rfl ?_
  refine s_getR (r := 2) rfl flX9_58 rfl rfl ?_
  refine r_iload_n rfl rfl ?_
  refine s_virV [.int v1] [] rfl lkX9_68 rfl rfl rfl (c_add (x := (aL a, aT a)) c6 c7 (by show aL a + 0 + 4 ≤ 700; omega)) rfl rfl (Nat.le_refl _) (Nat.le_refl _) rfl ?_
  rintro _ ⟨f0, e0, rfl, a0, t0⟩
  refine m_mz (L' := [(2, f0), (3, e0)]) (M' := []) rfl rfl ?_
  refine r_aload_n rfl rfl ?_
  refine s_getR (r := 1) rfl flX9_10 rfl rfl ?_
  refine s_getR (r := 2) rfl flX9_58 rfl rfl ?_
  refine r_iload_n rfl rfl ?_
  refine s_virV [.int v2] [] rfl lkX9_68 rfl rfl rfl (c_add (x := (ad4 (aL a, aT a) v1)) a0 t0 (by show aL a + 4 + 4 ≤ 700; omega)) rfl rfl (Nat.le_refl _) (Nat.le_refl _) rfl ?_
  rintro _ ⟨f1, e1, rfl, a1, t1⟩
  refine m_mz (L' := [(2, f1), (3, e1)]) (M' := []) rfl rfl ?_
  refine r_aload_n rfl rfl ?_
  refine s_getR (r := 1) rfl flX9_10 rfl rfl ?_
  refine s_getR (r := 2) rfl flX9_58 rfl rfl ?_
  refine r_iload_n rfl rfl ?_
  refine s_virV [.int v3] [] rfl lkX9_68 rfl rfl rfl (c_add (x := (ad4 (ad4 (aL a, aT a) v1) v2)) a1 t1 (by show aL a + 8 + 4 ≤ 700; omega)) rfl rfl (Nat.le_refl _) (Nat.le_refl _) rfl ?_
  rintro _ ⟨f2, e2, rfl, a2, t2⟩
  refine m_mz (L' := [(2, f2), (3, e2)]) (M' := []) rfl rfl ?_
  refine r_aload_n rfl rfl ?_
  refine s_getR (r := 1) rfl flX9_10 rfl rfl ?_
  refine s_getR (r := 2) rfl flX9_58 rfl rfl ?_
  refine r_iload rfl rfl ?_
  refine s_virV [.int v4] [] rfl lkX9_68 rfl rfl rfl (c_add (x := (ad4 (ad4 (ad4 (aL a, aT a) v1) v2) v3)) a2 t2 (by show aL a + 12 + 4 ≤ 700; omega)) rfl rfl (Nat.le_refl _) (Nat.le_refl _) rfl ?_
  rintro _ ⟨f3, e3, rfl, a3, t3⟩
  refine m_mz (L' := [(2, f3), (3, e3)]) (M' := []) rfl rfl ?_
  refine r_aload_n rfl rfl ?_
  refine s_getR (r := 1) rfl flX9_10 rfl rfl ?_
  refine s_getR (r := 2) rfl flX9_58 rfl rfl ?_
  refine r_iload rfl rfl ?_
  refine s_virV [.int v5] [] rfl lkX9_68 rfl rfl rfl (c_add (x := (ad4 (ad4 (ad4 (ad4 (aL a, aT a) v1) v2) v3) v4)) a3 t3 (by show aL a + 16 + 4 ≤ 700; omega)) rfl rfl (Nat.le_refl _) (Nat.le_refl _) rfl ?_
  rintro _ ⟨f4, e4, rfl, a4, t4⟩
  refine m_mz (L' := [(2, f4), (3, e4)]) (M' := []) rfl rfl ?_
  refine r_aload_n rfl rfl ?_
  refine s_getR (r := 1) rfl flX9_10 rfl rfl ?_
  refine s_getR (r := 2) rfl flX9_58 rfl rfl ?_
  refine s_getI (x := nI ((ad4 (ad4 (ad4 (ad4 (ad4 (aL a, aT a) v1) v2) v3) v4) v5).1)) rfl flX9_72 rfl rfl a4 ?_
  exact s_ret (st := []) rfl rfl rfl (Nat.zero_le _) (Nat.zero_le _) (⟨_, rfl, rfl, FrM_mz rfl rfl, ⟨c1, c3, c4, c5, ⟨a4, t4⟩, c8, c9⟩, hSE⟩)

theorem c_append_no {z : SZ} {sc : SC} {σ : SS} {a : AB} {v1 v2 v3 v4 v5 : Int32} (hA : AV a) (hI : CI9 σ a) (hl : ¬ aL a + 20 ≤ 700) : Cs z sc mX9_append 0 0 [.ref 0, .int v1, .int v2, .int v3, .int v4, .int v5] σ (PI (-1) σ) := by
  refine Cs.of gmX9_append (Nat.le_of_ble_eq_true rfl) ?_
  show Ws z sc mX9_append 0 0 0 0 0 [(0, .ref 0), (1, .int v1), (2, .int v2), (3, .int v3), (4, .int v4), (5, .int v5)] [] (mz σ [] []) (PI (-1) σ)
  have hL := hA.2.2.2.2.1.1
  refine r_aload_n rfl rfl ?_
  refine s_getR (r := 1) rfl flX9_10 rfl rfl ?_
  refine s_getR (r := 2) rfl flX9_58 rfl rfl ?_
  refine s_virI [] [] rfl lkX9_62 rfl rfl rfl (c_hasRoom hI.1.2.2.2.2.1.1 hL) rfl rfl (Nat.le_refl _) (Nat.le_refl _) rfl (rI (e1 := nI 0) (by rw [decide_eq_false hl]; rfl) ?_)
  refine n_if_ne (tgt := 15) rfl rfl (by decide) (fun hq => absurd hq (by decide)) (fun _ => ?_)
  refine n_m1 rfl ?_
  exact s_ret (st := []) rfl rfl rfl (Nat.zero_le _) (Nat.zero_le _) (pI rfl rfl)

theorem c_sole {z : SZ} {sc : SC} {σ : SS} {a : AB} (hA : AV a) (h1 : σ.1 2 1 = nI (aL a)) (hT : TR (σ.1 3) (aL a, aT a)) : Cs z sc mX1_soleWord 0 0 [.ref 2] σ (RL9 fun v σ' => ∃ f, v = lN (if (tK (aL a, aT a) 0 = 1 ∧ tS (aL a, aT a) 0 = 0 ∧ ∀ i, i < aL a → tE (aL a, aT a) 0 ≤ i → aT a i = 32) then w27 (wl (aL a, aT a) 0) 0 else 0) ∧ σ' = mz σ [(2, f)] []) := by
  refine Cs.of gmX1_soleWord (Nat.le_of_ble_eq_true rfl) ?_
  show Ws z sc mX1_soleWord 0 0 0 0 0 [(0, .ref 2)] [] (mz σ [] []) (RL9 fun v σ' => ∃ f, v = lN (if (tK (aL a, aT a) 0 = 1 ∧ tS (aL a, aT a) 0 = 0 ∧ ∀ i, i < aL a → tE (aL a, aT a) 0 ≤ i → aT a i = 32) then w27 (wl (aL a, aT a) 0) 0 else 0) ∧ σ' = mz σ [(2, f)] [])
  have hL := hA.2.2.2.2.1.1
  have hb : ∀ i, aT a i < 256 := hA.2.2.2.2.1.2.1
  have hx : (((aL a, aT a) : TX)).1 ≤ 700 := hL
  have hkl := tK_le (aL a, aT a) 0
  have hsl : tS (aL a, aT a) 0 ≤ aL a := tS_le (x := (aL a, aT a)) (Nat.zero_le _)
  have hel : tE (aL a, aT a) 0 ≤ aL a + 1 := tE_le1 (x := (aL a, aT a)) (Nat.zero_le _)
  refine r_aload_n rfl rfl ?_
  refine r_aload_n rfl rfl ?_
  refine s_getI (x := nI (aL a)) rfl flX1_15 rfl rfl h1 ?_
  refine s_virV [.int (nI (aL a))] [] rfl lkX1_52 rfl rfl rfl (c_open (x := (aL a, aT a)) hx hb hT) rfl rfl (Nat.le_refl _) (Nat.le_refl _) rfl ?_
  rintro _ ⟨f, rfl, g1, g2⟩
  refine m_mz (L' := [(2, f)]) (M' := []) rfl rfl ?_
  refine r_aload_n rfl rfl ?_
  refine s_getI (x := nI (tK (aL a, aT a) 0)) rfl flX1_22 rfl rfl g2.2.1 ?_
  refine n_iconst 1 rfl ?_
  suffices K : Ws z sc mX1_soleWord 0 0 0 0 28 [(0, .ref 2)] [.int (nI (tb (decide (tK (aL a, aT a) 0 = 1 ∧ tS (aL a, aT a) 0 = 0))))] (mz σ [(2, f)] []) (RL9 fun v σ' => ∃ f, v = lN (if (tK (aL a, aT a) 0 = 1 ∧ tS (aL a, aT a) 0 = 0 ∧ ∀ i, i < aL a → tE (aL a, aT a) 0 ≤ i → aT a i = 32) then w27 (wl (aL a, aT a) 0) 0 else 0) ∧ σ' = mz σ [(2, f)] []) by
    refine n_icmp_ne (tgt := 27) rfl rfl (by omega) (by omega) (fun h2 => ?_) (fun h2 => ?_)
    · refine n_iconst 0 rfl ?_
      exact r_top (by rw [decide_eq_false (by omega)]; rfl) K
    · refine r_aload_n rfl rfl ?_
      refine s_getI (x := nI (tS (aL a, aT a) 0)) rfl flX1_25 rfl rfl g2.2.2.1 ?_
      refine n_if_ne (tgt := 27) rfl rfl (by omega) (fun h3 => ?_) (fun h3 => ?_)
      · refine n_iconst 0 rfl ?_
        exact r_top (by rw [decide_eq_false (by omega)]; rfl) K
      · refine n_iconst 1 rfl ?_
        refine r_goto (tgt := 28) rfl rfl ?_
        exact r_top (by rw [decide_eq_true (by omega)]; rfl) K
  refine r_istore_n (lv' := [(1, .int (nI (tb (decide (tK (aL a, aT a) 0 = 1 ∧ tS (aL a, aT a) 0 = 0))))), (0, .ref 2)]) rfl rfl (Nat.le_of_ble_eq_true rfl) rfl ?_
  refine r_aload_n rfl rfl ?_
  refine s_getI (x := nI (tE (aL a, aT a) 0)) rfl flX1_28 rfl rfl g2.2.2.2 ?_
  refine r_istore_n (lv' := [(2, .int (nI (tE (aL a, aT a) 0))), (1, .int (nI (tb (decide (tK (aL a, aT a) 0 = 1 ∧ tS (aL a, aT a) 0 = 0))))), (0, .ref 2)]) rfl rfl (Nat.le_of_ble_eq_true rfl) rfl ?_
  refine r_lv (lv' := [(2, .int (nI (tE (aL a, aT a) 0))), (0, .ref 2), (1, .int (nI (tb (decide (tK (aL a, aT a) 0 = 1 ∧ tS (aL a, aT a) 0 = 0)))))]) [0, 2, 1] rfl ?_
  have loop : ∀ (m9 : Nat) (i : Nat) (c : Bool), aL a + 1 - i < m9 → (tE (aL a, aT a) 0 ≤ i) → (i ≤ aL a + 1) → (c = true ↔ (tK (aL a, aT a) 0 = 1 ∧ tS (aL a, aT a) 0 = 0) ∧ ∀ k, tE (aL a, aT a) 0 ≤ k → k < i → aT a k = 32) → (tK (aL a, aT a) 0 = 1 → i ≤ aL a) → Ws z sc mX1_soleWord 0 0 0 0 34 [(2, .int (nI i)), (0, .ref 2), (1, .int (nI (tb c)))] [] (mz σ [(2, f)] []) (RL9 fun v σ' => ∃ f, v = lN (if (tK (aL a, aT a) 0 = 1 ∧ tS (aL a, aT a) 0 = 0 ∧ ∀ i, i < aL a → tE (aL a, aT a) 0 ≤ i → aT a i = 32) then w27 (wl (aL a, aT a) 0) 0 else 0) ∧ σ' = mz σ [(2, f)] []) := by
    intro m9
    induction m9 with
    | zero => intro i c hme; exact absurd hme (Nat.not_lt_zero _)
    | succ m9 ih =>
      intro i c hme hei hi hc hie
      have hcb := tb_le c
      refine r_iload_n rfl rfl ?_
      refine r_aload_n rfl rfl ?_
      refine s_getI (x := nI (aL a)) rfl flX1_15 rfl rfl (g1.trans h1) ?_
      refine n_icmp_ge (tgt := 68) rfl rfl (by omega) (by omega) (fun h4 => ?_) (fun h4 => ?_)
      · refine r_iload_n rfl rfl ?_
        have hlt : tK (aL a, aT a) 0 = 1 → ∀ k, tE (aL a, aT a) 0 ≤ k → k < i → k < aL a := fun z k _ y => by have hh := hie z; omega
        refine n_if_eq (tgt := 79) rfl rfl (by omega) (fun h5 => ?_) (fun h5 => ?_)
        · refine n_lconst0 rfl ?_
          exact s_lret (st := []) rfl rfl (Nat.zero_le _) (Nat.zero_le _) (⟨_, rfl, f, by rw [if_neg (fun z => by have := hc.mpr ⟨⟨z.1, z.2.1⟩, fun k a b => z.2.2 k (hlt z.1 k a b) a⟩; rw [tb_z h5] at this; exact absurd this (by decide))], rfl⟩)
        · have hq := hc.mp (tb_ne h5)
          refine r_aload_n rfl rfl ?_
          refine s_virL [] [] rfl lkX1_56 rfl rfl rfl (c_word (x := (aL a, aT a)) hx hb hT g2 hq.1.1) rfl rfl (Nat.le_refl _) (Nat.le_refl _) rfl (rL (e1 := lN (w27 (wl (aL a, aT a) 0) 0)) rfl ?_)
          refine r_goto (tgt := 80) rfl rfl ?_
          exact s_lret (st := []) rfl rfl (Nat.zero_le _) (Nat.zero_le _) (⟨_, rfl, f, by rw [if_pos ⟨hq.1.1, hq.1.2, fun k b a => hq.2 k a (by omega)⟩], rfl⟩)
      · have hbi := hb i
        have hTi := hT i (by show i < aL a; omega)
        refine r_iload_n rfl rfl ?_
        suffices K : Ws z sc mX1_soleWord 0 0 0 0 61 [(2, .int (nI i)), (0, .ref 2), (1, .int (nI (tb c)))] [.int (nI (tb (decide (c = true ∧ aT a i = 32))))] (mz σ [(2, f)] []) (RL9 fun v σ' => ∃ f, v = lN (if (tK (aL a, aT a) 0 = 1 ∧ tS (aL a, aT a) 0 = 0 ∧ ∀ i, i < aL a → tE (aL a, aT a) 0 ≤ i → aT a i = 32) then w27 (wl (aL a, aT a) 0) 0 else 0) ∧ σ' = mz σ [(2, f)] []) by
          refine n_if_eq (tgt := 60) rfl rfl (by omega) (fun h5 => ?_) (fun h5 => ?_)
          · refine n_iconst 0 rfl ?_
            exact r_top (by rw [decide_eq_false (fun z => by rw [z.1] at h5; exact absurd h5 (by decide))]; rfl) K
          · refine r_aload_n rfl rfl ?_
            refine r_iload_n rfl rfl ?_
            refine s_virI [.int (nI i)] [] rfl lkX1_43 rfl rfl rfl (c_byteAt (v := bI (aT a i)) (by omega) hTi) rfl rfl (Nat.le_refl _) (Nat.le_refl _) rfl (rI (e1 := bI (aT a i)) rfl ?_)
            refine n_bipush 32 rfl (by decide) ?_
            refine r_icmp_ne (tgt := 60) rfl rfl (fun h6 => ?_) (fun h6 => ?_)
            · refine n_iconst 0 rfl ?_
              exact r_top (by rw [decide_eq_false (fun z => h6 ((bI_eq _ hbi 32 (by decide)).mpr z.2))]; rfl) K
            · refine n_iconst 1 rfl ?_
              refine r_goto (tgt := 61) rfl rfl ?_
              exact r_top (by rw [decide_eq_true ⟨tb_ne h5, (bI_eq _ hbi 32 (by decide)).mp h6⟩]; rfl) K
        refine r_istore_n (lv' := [(1, .int (nI (tb (decide (c = true ∧ aT a i = 32))))), (2, .int (nI i)), (0, .ref 2)]) rfl rfl (Nat.le_of_ble_eq_true rfl) rfl ?_
        refine n_iinc (lv' := [(2, .int (nI (i + 1))), (1, .int (nI (tb (decide (c = true ∧ aT a i = 32))))), (0, .ref 2)]) 1 rfl rfl (Nat.le_of_ble_eq_true rfl) rfl ?_
        refine r_goto (tgt := 34) rfl rfl ?_
        refine r_lv (lv' := [(2, .int (nI (i + 1))), (0, .ref 2), (1, .int (nI (tb (decide (c = true ∧ aT a i = 32)))))]) [0, 2, 1] rfl ?_
        exact ih (i + 1) _ (by omega) (by omega) (by omega) ⟨fun z => ⟨(hc.mp (of_decide_eq_true z).1).1, lt_snoc2 (hc.mp (of_decide_eq_true z).1).2 (of_decide_eq_true z).2⟩, fun z => decide_eq_true ⟨hc.mpr ⟨z.1, fun k a b => z.2 k a (by omega)⟩, z.2 i hei (Nat.lt_succ_self i)⟩⟩ (fun z => by omega)
  exact loop (aL a + 2) (tE (aL a, aT a) 0) _ (by omega) (Nat.le_refl _) hel ⟨fun z => ⟨of_decide_eq_true z, fun k a b => absurd a (by omega)⟩, fun z => decide_eq_true z.1⟩ (fun z => tE_le (x := (aL a, aT a)) (by omega))

theorem c_find {z : SZ} {sc : SC} {σ : SS} {a : AB} (hA : AV a) (hI : CI9 σ a) : Cs z sc mX9_find 0 0 [.ref 0] σ (RI fun v σ' => v = oI (fiN a) ∧ FrM σ σ' ∧ CI9 σ' (fiA a)) := by
  refine Cs.of gmX9_find (Nat.le_of_ble_eq_true rfl) ?_
  show Ws z sc mX9_find 0 0 0 0 0 [(0, .ref 0)] [] (mz σ [] []) (RI fun v σ' => v = oI (fiN a) ∧ FrM σ σ' ∧ CI9 σ' (fiA a))
  have hV := hA.1
  have hC := vC hV
  obtain ⟨⟨⟨c1, c2⟩, c3, c4, c5, ⟨c6, c7⟩, c8, c9⟩, hSE⟩ := hI
  have hu : ∀ p, p < aD a 0 0 → okW (aN a p) := hA.2.2.2.2.2
  refine r_aload_n rfl rfl ?_
  refine s_getR (r := 12) rfl flX9_19 rfl rfl ?_
  refine r_aload_n rfl rfl ?_
  refine s_getR (r := 1) rfl flX9_10 rfl rfl ?_
  refine s_getR (r := 2) rfl flX9_58 rfl rfl ?_
  refine s_virL [] [.ref 12] rfl lkX9_145 rfl rfl rfl (c_sole hA c6 c7) rfl rfl (Nat.le_refl _) (Nat.le_refl _) rfl ?_
  rintro _ _ ⟨f, rfl, rfl⟩
  refine m_mz (L' := [(2, f)]) (M' := []) rfl rfl ?_
  have hv : (if (tK (aL a, aT a) 0 = 1 ∧ tS (aL a, aT a) 0 = 0 ∧ ∀ i, i < aL a → tE (aL a, aT a) 0 ≤ i → aT a i = 32) then w27 (wl (aL a, aT a) 0) 0 else 0) < 9223372036854775808 := by
    split
    · rename_i q; exact w27_lt (wl_ok q.1)
    · decide
  have hfi : oI (nmv (fun p => w27 (aN a p) 0) (if (tK (aL a, aT a) 0 = 1 ∧ tS (aL a, aT a) 0 = 0 ∧ ∀ i, i < aL a → tE (aL a, aT a) 0 ≤ i → aT a i = 32) then w27 (wl (aL a, aT a) 0) 0 else 0) (aD a 0 0)) = oI (fiN a) := by
    unfold fiN
    split
    · rfl
    · rw [nmd_0 hu]
  refine s_virI [.long (lN (if (tK (aL a, aT a) 0 = 1 ∧ tS (aL a, aT a) 0 = 0 ∧ ∀ i, i < aL a → tE (aL a, aT a) 0 ≤ i → aT a i = 32) then w27 (wl (aL a, aT a) 0) 0 else 0))] [] rfl lkX9_149 rfl rfl rfl (c_named_12 c2.1.1 hC.1 c9 (fun p hp => w27_lt (hu p hp)) hv) rfl rfl (Nat.le_refl _) (Nat.le_refl _) rfl (rI (e1 := oI (fiN a)) hfi ?_)
  refine r_istore_n (lv' := [(1, .int (oI (fiN a))), (0, .ref 0)]) rfl rfl (Nat.le_of_ble_eq_true rfl) rfl ?_
  refine r_aload_n rfl rfl ?_
  refine s_getR (r := 1) rfl flX9_10 rfl rfl ?_
  refine s_getR (r := 2) rfl flX9_58 rfl rfl ?_
  refine s_virV [] [] rfl lkX9_85 rfl rfl rfl c_iclear rfl rfl (Nat.le_refl _) (Nat.le_refl _) rfl (rV ?_)
  refine m_mz (L' := [(2, (aup f 1 (nI 0)))]) (M' := []) rfl rfl ?_
  refine r_iload_n rfl rfl ?_
  exact s_ret (st := []) rfl rfl rfl (Nat.zero_le _) (Nat.zero_le _) (⟨_, rfl, rfl, FrM_mz rfl rfl, ⟨⟨c1, c2⟩, c3, c4, c5, ⟨rfl, fun i hi => absurd hi (Nat.not_lt_zero _)⟩, c8, c9⟩, hSE⟩)

theorem k_find {l9 : Bool} {sc : SC} {σ : SS} {a : AB} (hA : AV a) (hI : MI9 σ a) : Cs (true, l9) sc mX10_find 0 0 [.ref 53] σ (RI fun v σ' => v = oI (fiN a) ∧ σ'.1 53 0 = nI 0 ∧ FrC σ σ' ∧ MI9 σ' (fiA a)) := by
  refine Cs.of gmX10_find (Nat.le_of_ble_eq_true rfl) ?_
  show Ws (true, l9) sc mX10_find 0 0 0 0 0 [(0, .ref 53)] [] (mz σ [] []) (RI fun v σ' => v = oI (fiN a) ∧ σ'.1 53 0 = nI 0 ∧ FrC σ σ' ∧ MI9 σ' (fiA a))
  have hV := hA.1
  have hC := vC hV
  have hL := hA.2.2.2.2.1.1
  have hb : ∀ i, aT a i < 256 := hA.2.2.2.2.1.2.1
  have hx : (((aL a, aT a) : TX)).1 ≤ 700 := hL
  have hu : ∀ p, p < aD a 0 0 → okW (aN a p) := hA.2.2.2.2.2
  have hT := hI.2.2.2.2.2.1
  refine r_aload_n rfl rfl ?_
  refine n_iconst 0 rfl ?_
  refine m_putI (L' := [(53, (aup (σ.1 53) 0 (nI 0)))]) rfl flX10_89 rfl rfl (okv_i _) rfl ?_
  refine r_aload_n rfl rfl ?_
  refine r_aload_n rfl rfl ?_
  refine s_getI (x := nI (aL a)) rfl flX10_92 rfl rfl hI.2.1.2.1 ?_
  refine m_putI (L' := [(53, (aup (aup (σ.1 53) 0 (nI 0)) 7 (nI (aL a))))]) rfl flX10_99 rfl rfl (okv_i _) rfl ?_
  refine r_aload_n rfl rfl ?_
  refine n_iconst 0 rfl ?_
  refine m_putI (L' := [(53, (aup (aup (aup (σ.1 53) 0 (nI 0)) 7 (nI (aL a))) 6 (nI 0)))]) rfl flX10_92 rfl rfl (okv_i _) rfl ?_
  refine r_aload_n rfl rfl ?_
  refine n_iconst 0 rfl ?_
  refine m_putI (L' := [(53, (aup (aup (aup (aup (σ.1 53) 0 (nI 0)) 7 (nI (aL a))) 6 (nI 0)) 8 (nI 0)))]) rfl flX10_117 rfl rfl (okv_i _) rfl ?_
  refine r_aload_n rfl rfl ?_
  refine n_iconst 0 rfl ?_
  refine m_putI (L' := [(53, (aup (aup (aup (aup (aup (σ.1 53) 0 (nI 0)) 7 (nI (aL a))) 6 (nI 0)) 8 (nI 0)) 9 (nI 0)))]) rfl flX10_106 rfl rfl (okv_i _) rfl ?_
  refine r_aload_n rfl rfl ?_
  refine s_virV [] [] rfl lkX10_126 rfl rfl rfl (k_letters (x := (aL a, aT a)) (s := 0) hx hb hT rfl rfl rfl (Nat.zero_le _)) rfl rfl (Nat.le_refl _) (Nat.le_refl _) rfl ?_
  rintro _ ⟨f, g, rfl, f9, g12, fk, gk⟩
  refine m_mz (L' := [(53, f)]) (M' := [(53, g)]) rfl rfl ?_
  have hnl := run_le (x := (aL a, aT a)) (c := 1) (i := 0) (Nat.zero_le _)
  have hnl2 : run (aL a, aT a) 1 0 ≤ aL a := hnl
  refine r_aload_n rfl rfl ?_
  refine s_getI (x := nI (run (aL a, aT a) 1 0)) rfl flX10_106 rfl rfl f9 ?_
  refine r_istore_n (lv' := [(1, .int (nI (run (aL a, aT a) 1 0))), (0, .ref 53)]) rfl rfl (Nat.le_of_ble_eq_true rfl) rfl ?_
  refine r_lv (lv' := [(1, .int (nI (run (aL a, aT a) 1 0))), (0, .ref 53)]) [0, 1] rfl ?_
  have loop : ∀ (m9 : Nat) (i : Nat) (f2 : Nat → Int32), aL a + 1 - i < m9 → (run (aL a, aT a) 1 0 ≤ i) → (i ≤ aL a) → (∀ k, run (aL a, aT a) 1 0 ≤ k → k < i → aT a k = 32) → (f2 9 = nI i) → (∀ k, k ≠ 9 → f2 k = f k) → Ws (true, l9) sc mX10_find 0 0 0 0 37 [(1, .int (nI (run (aL a, aT a) 1 0))), (0, .ref 53)] [] (mz σ [(53, f2)] [(53, g)]) (RI fun v σ' => v = oI (fiN a) ∧ σ'.1 53 0 = nI 0 ∧ FrC σ σ' ∧ MI9 σ' (fiA a)) := by
    intro m9
    induction m9 with
    | zero => intro i f2 hme; exact absurd hme (Nat.not_lt_zero _)
    | succ m9 ih =>
      intro i f2 hme hei hi hall h9 hk2
      have h7 : f2 7 = nI (aL a) := (hk2 7 (by decide)).trans (fk 7 (by decide))
      by_cases h1 : aL a ≤ i
      · have hie : i = aL a := by omega
        refine r_aload_n rfl rfl ?_
        refine r_aload_n rfl rfl ?_
        refine s_getI (x := nI i) rfl flX10_106 rfl rfl h9 ?_
        refine s_virI [.int (nI i)] [] rfl lkX10_109 rfl rfl rfl (k_byteAt_o (x := (aL a, aT a)) hx h7 h1 (by omega)) rfl rfl (Nat.le_refl _) (Nat.le_refl _) rfl (rI (e1 := -1) rfl ?_)
        refine n_bipush 32 rfl (by decide) ?_
        refine r_icmp_ne (tgt := 63) rfl rfl (fun _ => ?_) (fun hq => absurd hq (by decide))
        refine r_iload_n rfl rfl ?_
        refine n_if_eq (tgt := 84) rfl rfl (by omega) (fun h3 => ?_) (fun h3 => ?_)
        · refine n_m1 rfl ?_
          refine r_goto (tgt := 105) rfl rfl ?_
          exact s_ret (st := []) rfl rfl rfl (Nat.zero_le _) (Nat.zero_le _) (⟨_, rfl, by rw [show fiN a = 0 from if_neg (fun z => by have := fi_b (x := (aL a, aT a)) z.1 z.2.1; omega)]; exact oI_0.symm, (hk2 0 (by decide)).trans (fk 0 (by decide)), FrC_mz rfl rfl, ⟨hI.1, ⟨(hk2 32 (by decide)).trans ((fk 32 (by decide)).trans hI.2.1.1), (hk2 6 (by decide)).trans (fk 6 (by decide)), (hk2 14 (by decide)).trans ((fk 14 (by decide)).trans hI.2.1.2.2)⟩, hI.2.2.1, hI.2.2.2.1, hI.2.2.2.2.1, fun i hi => absurd hi (Nat.not_lt_zero _), hI.2.2.2.2.2.2⟩⟩)
        · refine r_iload_n rfl rfl ?_
          refine n_bipush 8 rfl (by decide) ?_
          refine n_icmp_gt (tgt := 84) rfl rfl (by omega) (by omega) (fun h4 => ?_) (fun h4 => ?_)
          · refine n_m1 rfl ?_
            refine r_goto (tgt := 105) rfl rfl ?_
            exact s_ret (st := []) rfl rfl rfl (Nat.zero_le _) (Nat.zero_le _) (⟨_, rfl, by rw [show fiN a = 0 from if_neg (fun z => by have := fi_b (x := (aL a, aT a)) z.1 z.2.1; omega)]; exact oI_0.symm, (hk2 0 (by decide)).trans (fk 0 (by decide)), FrC_mz rfl rfl, ⟨hI.1, ⟨(hk2 32 (by decide)).trans ((fk 32 (by decide)).trans hI.2.1.1), (hk2 6 (by decide)).trans (fk 6 (by decide)), (hk2 14 (by decide)).trans ((fk 14 (by decide)).trans hI.2.1.2.2)⟩, hI.2.2.1, hI.2.2.2.1, hI.2.2.2.2.1, fun i hi => absurd hi (Nat.not_lt_zero _), hI.2.2.2.2.2.2⟩⟩)
          · refine r_aload_n rfl rfl ?_
            refine s_getI (x := nI i) rfl flX10_106 rfl rfl h9 ?_
            refine r_aload_n rfl rfl ?_
            refine s_getI (x := nI (aL a)) rfl flX10_99 rfl rfl h7 ?_
            refine n_icmp_ge (tgt := 88) rfl rfl (by omega) (by omega) (fun h5 => ?_) (fun h5 => ?_)
            · have hw := fi_w (x := (aL a, aT a)) (by omega) (by omega)
              obtain ⟨q1, q2, q3⟩ := hw
              have hw2 := wl_ok q1
              refine r_aload_n rfl rfl ?_
              refine s_getR (r := 56) rfl flX10_16 rfl rfl ?_
              refine r_aload_n rfl rfl ?_
              refine s_getR (r := 54) rfl flX10_7 rfl rfl ?_
              refine n_iconst 0 rfl ?_
              refine s_iald (x := nI (aD a 0 0)) rfl rfl (by decide) (MRat hI.1 0 0 (by decide) (by decide)) ?_
              refine r_aload_n rfl rfl ?_
              refine s_getL (x := lN (w256 (wl (aL a, aT a) 0) 0)) rfl flX10_102 rfl rfl (g12.trans (by rw [q3])) ?_
              refine s_staI [.ref 56, .int (nI (aD a 0 0)), .long (lN (w256 (wl (aL a, aT a) 0) 0))] [] rfl lkX10_162 (k_named_56 hC.1 hI.2.2.2.2.2.2 (fun p hp => w256_lt (hu p hp)) (w256_lt hw2)) rfl rfl (Nat.le_refl _) (Nat.le_refl _) rfl (rI (e1 := oI (fiN a)) (by rw [nmd_256 hu hw2, show fiN a = nmd (aN a) (aD a 0 0) (wl (aL a, aT a) 0) from if_pos ⟨q1, q2.1, fun k b a => hall k (by rw [q2.2] at a; exact a) (by omega)⟩]) ?_)
              exact s_ret (st := []) rfl rfl rfl (Nat.zero_le _) (Nat.zero_le _) (⟨_, rfl, rfl, (hk2 0 (by decide)).trans (fk 0 (by decide)), FrC_mz rfl rfl, ⟨hI.1, ⟨(hk2 32 (by decide)).trans ((fk 32 (by decide)).trans hI.2.1.1), (hk2 6 (by decide)).trans (fk 6 (by decide)), (hk2 14 (by decide)).trans ((fk 14 (by decide)).trans hI.2.1.2.2)⟩, hI.2.2.1, hI.2.2.2.1, hI.2.2.2.2.1, fun i hi => absurd hi (Nat.not_lt_zero _), hI.2.2.2.2.2.2⟩⟩)
            · refine n_m1 rfl ?_
              refine r_goto (tgt := 105) rfl rfl ?_
              exact s_ret (st := []) rfl rfl rfl (Nat.zero_le _) (Nat.zero_le _) (⟨_, rfl, by rw [show fiN a = 0 from if_neg (fun z => fi_no (x := (aL a, aT a)) z.1 z.2.1 z.2.2 hei (by show i < aL a; omega) (fun z => absurd z (by omega)))]; exact oI_0.symm, (hk2 0 (by decide)).trans (fk 0 (by decide)), FrC_mz rfl rfl, ⟨hI.1, ⟨(hk2 32 (by decide)).trans ((fk 32 (by decide)).trans hI.2.1.1), (hk2 6 (by decide)).trans (fk 6 (by decide)), (hk2 14 (by decide)).trans ((fk 14 (by decide)).trans hI.2.1.2.2)⟩, hI.2.2.1, hI.2.2.2.1, hI.2.2.2.2.1, fun i hi => absurd hi (Nat.not_lt_zero _), hI.2.2.2.2.2.2⟩⟩)
      · have h1 : i < aL a := by omega
        have hbi := hb i
        refine r_aload_n rfl rfl ?_
        refine r_aload_n rfl rfl ?_
        refine s_getI (x := nI i) rfl flX10_106 rfl rfl h9 ?_
        refine s_virI [.int (nI i)] [] rfl lkX10_109 rfl rfl rfl (k_byteAt (x := (aL a, aT a)) hx hb hT h7 h1) rfl rfl (Nat.le_refl _) (Nat.le_refl _) rfl (rI (e1 := nI (aT a i)) rfl ?_)
        refine n_bipush 32 rfl (by decide) ?_
        refine n_icmp_ne (tgt := 63) rfl rfl (by omega) (by omega) (fun h2 => ?_) (fun h2 => ?_)
        · refine r_iload_n rfl rfl ?_
          refine n_if_eq (tgt := 84) rfl rfl (by omega) (fun h3 => ?_) (fun h3 => ?_)
          · refine n_m1 rfl ?_
            refine r_goto (tgt := 105) rfl rfl ?_
            exact s_ret (st := []) rfl rfl rfl (Nat.zero_le _) (Nat.zero_le _) (⟨_, rfl, by rw [show fiN a = 0 from if_neg (fun z => by have := fi_b (x := (aL a, aT a)) z.1 z.2.1; omega)]; exact oI_0.symm, (hk2 0 (by decide)).trans (fk 0 (by decide)), FrC_mz rfl rfl, ⟨hI.1, ⟨(hk2 32 (by decide)).trans ((fk 32 (by decide)).trans hI.2.1.1), (hk2 6 (by decide)).trans (fk 6 (by decide)), (hk2 14 (by decide)).trans ((fk 14 (by decide)).trans hI.2.1.2.2)⟩, hI.2.2.1, hI.2.2.2.1, hI.2.2.2.2.1, fun i hi => absurd hi (Nat.not_lt_zero _), hI.2.2.2.2.2.2⟩⟩)
          · refine r_iload_n rfl rfl ?_
            refine n_bipush 8 rfl (by decide) ?_
            refine n_icmp_gt (tgt := 84) rfl rfl (by omega) (by omega) (fun h4 => ?_) (fun h4 => ?_)
            · refine n_m1 rfl ?_
              refine r_goto (tgt := 105) rfl rfl ?_
              exact s_ret (st := []) rfl rfl rfl (Nat.zero_le _) (Nat.zero_le _) (⟨_, rfl, by rw [show fiN a = 0 from if_neg (fun z => by have := fi_b (x := (aL a, aT a)) z.1 z.2.1; omega)]; exact oI_0.symm, (hk2 0 (by decide)).trans (fk 0 (by decide)), FrC_mz rfl rfl, ⟨hI.1, ⟨(hk2 32 (by decide)).trans ((fk 32 (by decide)).trans hI.2.1.1), (hk2 6 (by decide)).trans (fk 6 (by decide)), (hk2 14 (by decide)).trans ((fk 14 (by decide)).trans hI.2.1.2.2)⟩, hI.2.2.1, hI.2.2.2.1, hI.2.2.2.2.1, fun i hi => absurd hi (Nat.not_lt_zero _), hI.2.2.2.2.2.2⟩⟩)
            · refine r_aload_n rfl rfl ?_
              refine s_getI (x := nI i) rfl flX10_106 rfl rfl h9 ?_
              refine r_aload_n rfl rfl ?_
              refine s_getI (x := nI (aL a)) rfl flX10_99 rfl rfl h7 ?_
              refine n_icmp_ge (tgt := 88) rfl rfl (by omega) (by omega) (fun h5 => ?_) (fun h5 => ?_)
              · have hw := fi_w (x := (aL a, aT a)) (by omega) (by omega)
                obtain ⟨q1, q2, q3⟩ := hw
                have hw2 := wl_ok q1
                refine r_aload_n rfl rfl ?_
                refine s_getR (r := 56) rfl flX10_16 rfl rfl ?_
                refine r_aload_n rfl rfl ?_
                refine s_getR (r := 54) rfl flX10_7 rfl rfl ?_
                refine n_iconst 0 rfl ?_
                refine s_iald (x := nI (aD a 0 0)) rfl rfl (by decide) (MRat hI.1 0 0 (by decide) (by decide)) ?_
                refine r_aload_n rfl rfl ?_
                refine s_getL (x := lN (w256 (wl (aL a, aT a) 0) 0)) rfl flX10_102 rfl rfl (g12.trans (by rw [q3])) ?_
                refine s_staI [.ref 56, .int (nI (aD a 0 0)), .long (lN (w256 (wl (aL a, aT a) 0) 0))] [] rfl lkX10_162 (k_named_56 hC.1 hI.2.2.2.2.2.2 (fun p hp => w256_lt (hu p hp)) (w256_lt hw2)) rfl rfl (Nat.le_refl _) (Nat.le_refl _) rfl (rI (e1 := oI (fiN a)) (by rw [nmd_256 hu hw2, show fiN a = nmd (aN a) (aD a 0 0) (wl (aL a, aT a) 0) from if_pos ⟨q1, q2.1, fun k b a => hall k (by rw [q2.2] at a; exact a) (by omega)⟩]) ?_)
                exact s_ret (st := []) rfl rfl rfl (Nat.zero_le _) (Nat.zero_le _) (⟨_, rfl, rfl, (hk2 0 (by decide)).trans (fk 0 (by decide)), FrC_mz rfl rfl, ⟨hI.1, ⟨(hk2 32 (by decide)).trans ((fk 32 (by decide)).trans hI.2.1.1), (hk2 6 (by decide)).trans (fk 6 (by decide)), (hk2 14 (by decide)).trans ((fk 14 (by decide)).trans hI.2.1.2.2)⟩, hI.2.2.1, hI.2.2.2.1, hI.2.2.2.2.1, fun i hi => absurd hi (Nat.not_lt_zero _), hI.2.2.2.2.2.2⟩⟩)
              · refine n_m1 rfl ?_
                refine r_goto (tgt := 105) rfl rfl ?_
                exact s_ret (st := []) rfl rfl rfl (Nat.zero_le _) (Nat.zero_le _) (⟨_, rfl, by rw [show fiN a = 0 from if_neg (fun z => fi_no (x := (aL a, aT a)) z.1 z.2.1 z.2.2 hei (by show i < aL a; omega) (h2))]; exact oI_0.symm, (hk2 0 (by decide)).trans (fk 0 (by decide)), FrC_mz rfl rfl, ⟨hI.1, ⟨(hk2 32 (by decide)).trans ((fk 32 (by decide)).trans hI.2.1.1), (hk2 6 (by decide)).trans (fk 6 (by decide)), (hk2 14 (by decide)).trans ((fk 14 (by decide)).trans hI.2.1.2.2)⟩, hI.2.2.1, hI.2.2.2.1, hI.2.2.2.2.1, fun i hi => absurd hi (Nat.not_lt_zero _), hI.2.2.2.2.2.2⟩⟩)
        · refine r_aload_n rfl rfl ?_
          refine r_dup rfl rfl ?_
          refine s_getI (x := nI i) rfl flX10_106 rfl rfl h9 ?_
          refine n_iconst 1 rfl ?_
          refine n_iadd rfl ?_
          refine m_putI (L' := [(53, (aup f2 9 (nI (i + 1))))]) rfl flX10_106 rfl rfl (okv_i _) rfl ?_
          refine r_goto (tgt := 37) rfl rfl ?_
          refine r_lv (lv' := [(1, .int (nI (run (aL a, aT a) 1 0))), (0, .ref 53)]) [0, 1] rfl ?_
          exact ih (i + 1) _ (by omega) (by omega) (by omega) (lt_snoc2 hall h2) rfl (fun k hk => by rw [aup_n _ _ hk]; exact hk2 k hk)
  exact loop (aL a + 2) (run (aL a, aT a) 1 0) _ (by omega) (Nat.le_refl _) hnl2 (fun k a b => absurd a (by omega)) f9 (fun k _ => rfl)

