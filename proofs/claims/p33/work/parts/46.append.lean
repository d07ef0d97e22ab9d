theorem c_add {z : SZ} {sc : SC} {σ : SS} {x : TX} {v : Int32} (h6 : σ.1 2 1 = nI x.1) (hT : TR (σ.1 3) x) (hx : x.1 + 4 ≤ 700) : Cs z sc mX1_add 0 0 [.ref 2, .int v] σ (RV fun σ' => ∃ f2 f3, σ' = mz σ [(3, f3), (2, f2)] [] ∧ f2 1 = nI (ad4 x v).1 ∧ TR f3 (ad4 x v)) := by
  refine Cs.of gmX1_add (Nat.le_of_ble_eq_true rfl) ?_
  show Ws z sc mX1_add 0 0 0 0 0 [(0, .ref 2), (1, .int v)] [] (mz σ [] []) (RV fun σ' => ∃ f2 f3, σ' = mz σ [(3, f3), (2, f2)] [] ∧ f2 1 = nI (ad4 x v).1 ∧ TR f3 (ad4 x v))
  refine n_bipush 24 rfl (by decide) ?_
  refine r_istore_n (lv' := [(2, .int (nI 24)), (0, .ref 2), (1, .int v)]) rfl rfl (Nat.le_of_ble_eq_true rfl) rfl ?_
  refine r_iload_n rfl rfl ?_
  refine n_if_lt (tgt := 55) rfl rfl (by decide) (fun hq => hq.elim) (fun _ => ?_)
  refine r_aload_n rfl rfl ?_
  refine s_getI (x := nI x.1) rfl flX1_15 rfl rfl h6 ?_
  refine n_if_lt (tgt := 49) rfl rfl (by omega) (fun hq => hq.elim) (fun _ => ?_)
  refine r_aload_n rfl rfl ?_
  refine s_getI (x := nI x.1) rfl flX1_15 rfl rfl h6 ?_
  refine r_aload_n rfl rfl ?_
  refine s_getR (r := 3) rfl flX1_9 rfl rfl ?_
  refine s_alenB rfl rfl ?_
  refine n_icmp_ge (tgt := 49) rfl rfl (by omega) (by omega) (fun hq => absurd hq (by omega)) (fun _ => ?_)
  refine r_aload_n rfl rfl ?_
  refine s_getR (r := 3) rfl flX1_9 rfl rfl ?_
  refine r_aload_n rfl rfl ?_
  refine s_getI (x := nI x.1) rfl flX1_15 rfl rfl h6 ?_
  refine r_iload_n rfl rfl ?_
  refine r_iload_n rfl rfl ?_
  refine r_ishr rfl ?_
  refine r_i2b rfl rfl ?_
  refine m_bast (L' := [(3, (aup (σ.1 3) x.1 (vp_nar .byte ((v >>> ((nI 24) &&& 31)).toInt8.toInt32))))]) rfl rfl (by omega) rfl ?_
  refine r_aload_n rfl rfl ?_
  refine r_dup rfl rfl ?_
  refine s_getI (x := nI x.1) rfl flX1_15 rfl rfl h6 ?_
  refine n_iconst 1 rfl ?_
  refine n_iadd rfl ?_
  refine m_putI (L' := [(3, (aup (σ.1 3) x.1 (vp_nar .byte ((v >>> ((nI 24) &&& 31)).toInt8.toInt32)))), (2, (aup (σ.1 2) 1 (nI (x.1 + 1))))]) rfl flX1_15 rfl rfl (okv_i _) rfl ?_
  refine r_iinc (lv' := [(2, .int (nI 16)), (0, .ref 2), (1, .int v)]) rfl rfl (by decide) (Nat.le_of_ble_eq_true rfl) rfl ?_
  refine r_goto (tgt := 3) rfl rfl ?_
  refine r_iload_n rfl rfl ?_
  refine n_if_lt (tgt := 55) rfl rfl (by decide) (fun hq => hq.elim) (fun _ => ?_)
  refine r_aload_n rfl rfl ?_
  refine s_getI (x := nI (x.1 + 1)) rfl flX1_15 rfl rfl rfl ?_
  refine n_if_lt (tgt := 49) rfl rfl (by omega) (fun hq => hq.elim) (fun _ => ?_)
  refine r_aload_n rfl rfl ?_
  refine s_getI (x := nI (x.1 + 1)) rfl flX1_15 rfl rfl rfl ?_
  refine r_aload_n rfl rfl ?_
  refine s_getR (r := 3) rfl flX1_9 rfl rfl ?_
  refine s_alenB rfl rfl ?_
  refine n_icmp_ge (tgt := 49) rfl rfl (by omega) (by omega) (fun hq => absurd hq (by omega)) (fun _ => ?_)
  refine r_aload_n rfl rfl ?_
  refine s_getR (r := 3) rfl flX1_9 rfl rfl ?_
  refine r_aload_n rfl rfl ?_
  refine s_getI (x := nI (x.1 + 1)) rfl flX1_15 rfl rfl rfl ?_
  refine r_iload_n rfl rfl ?_
  refine r_iload_n rfl rfl ?_
  refine r_ishr rfl ?_
  refine r_i2b rfl rfl ?_
  refine m_bast (L' := [(3, (aup (aup (σ.1 3) x.1 (vp_nar .byte ((v >>> ((nI 24) &&& 31)).toInt8.toInt32))) (x.1 + 1) (vp_nar .byte ((v >>> ((nI 16) &&& 31)).toInt8.toInt32)))), (2, (aup (σ.1 2) 1 (nI (x.1 + 1))))]) rfl rfl (by omega) rfl ?_
  refine r_aload_n rfl rfl ?_
  refine r_dup rfl rfl ?_
  refine s_getI (x := nI (x.1 + 1)) rfl flX1_15 rfl rfl rfl ?_
  refine n_iconst 1 rfl ?_
  refine n_iadd rfl ?_
  refine m_putI (L' := [(3, (aup (aup (σ.1 3) x.1 (vp_nar .byte ((v >>> ((nI 24) &&& 31)).toInt8.toInt32))) (x.1 + 1) (vp_nar .byte ((v >>> ((nI 16) &&& 31)).toInt8.toInt32)))), (2, (aup (aup (σ.1 2) 1 (nI (x.1 + 1))) 1 (nI ((x.1 + 1) + 1))))]) rfl flX1_15 rfl rfl (okv_i _) rfl ?_
  refine r_iinc (lv' := [(2, .int (nI 8)), (0, .ref 2), (1, .int v)]) rfl rfl (by decide) (Nat.le_of_ble_eq_true rfl) rfl ?_
  refine r_goto (tgt := 3) rfl rfl ?_
  refine r_iload_n rfl rfl ?_
  refine n_if_lt (tgt := 55) rfl rfl (by decide) (fun hq => hq.elim) (fun _ => ?_)
  refine r_aload_n rfl rfl ?_
  refine s_getI (x := nI ((x.1 + 1) + 1)) rfl flX1_15 rfl rfl rfl ?_
  refine n_if_lt (tgt := 49) rfl rfl (by omega) (fun hq => hq.elim) (fun _ => ?_)
  refine r_aload_n rfl rfl ?_
  refine s_getI (x := nI ((x.1 + 1) + 1)) rfl flX1_15 rfl rfl rfl ?_
  refine r_aload_n rfl rfl ?_
  refine s_getR (r := 3) rfl flX1_9 rfl rfl ?_
  refine s_alenB rfl rfl ?_
  refine n_icmp_ge (tgt := 49) rfl rfl (by omega) (by omega) (fun hq => absurd hq (by omega)) (fun _ => ?_)
  refine r_aload_n rfl rfl ?_
  refine s_getR (r := 3) rfl flX1_9 rfl rfl ?_
  refine r_aload_n rfl rfl ?_
  refine s_getI (x := nI ((x.1 + 1) + 1)) rfl flX1_15 rfl rfl rfl ?_
  refine r_iload_n rfl rfl ?_
  refine r_iload_n rfl rfl ?_
  refine r_ishr rfl ?_
  refine r_i2b rfl rfl ?_
  refine m_bast (L' := [(3, (aup (aup (aup (σ.1 3) x.1 (vp_nar .byte ((v >>> ((nI 24) &&& 31)).toInt8.toInt32))) (x.1 + 1) (vp_nar .byte ((v >>> ((nI 16) &&& 31)).toInt8.toInt32))) ((x.1 + 1) + 1) (vp_nar .byte ((v >>> ((nI 8) &&& 31)).toInt8.toInt32)))), (2, (aup (aup (σ.1 2) 1 (nI (x.1 + 1))) 1 (nI ((x.1 + 1) + 1))))]) rfl rfl (by omega) rfl ?_
  refine r_aload_n rfl rfl ?_
  refine r_dup rfl rfl ?_
  refine s_getI (x := nI ((x.1 + 1) + 1)) rfl flX1_15 rfl rfl rfl ?_
  refine n_iconst 1 rfl ?_
  refine n_iadd rfl ?_
  refine m_putI (L' := [(3, (aup (aup (aup (σ.1 3) x.1 (vp_nar .byte ((v >>> ((nI 24) &&& 31)).toInt8.toInt32))) (x.1 + 1) (vp_nar .byte ((v >>> ((nI 16) &&& 31)).toInt8.toInt32))) ((x.1 + 1) + 1) (vp_nar .byte ((v >>> ((nI 8) &&& 31)).toInt8.toInt32)))), (2, (aup (aup (aup (σ.1 2) 1 (nI (x.1 + 1))) 1 (nI ((x.1 + 1) + 1))) 1 (nI (((x.1 + 1) + 1) + 1))))]) rfl flX1_15 rfl rfl (okv_i _) rfl ?_
  refine r_iinc (lv' := [(2, .int (nI 0)), (0, .ref 2), (1, .int v)]) rfl rfl (by decide) (Nat.le_of_ble_eq_true rfl) rfl ?_
  refine r_goto (tgt := 3) rfl rfl ?_
  refine r_iload_n rfl rfl ?_
  refine n_if_lt (tgt := 55) rfl rfl (by decide) (fun hq => hq.elim) (fun _ => ?_)
  refine r_aload_n rfl rfl ?_
  refine s_getI (x := nI (((x.1 + 1) + 1) + 1)) rfl flX1_15 rfl rfl rfl ?_
  refine n_if_lt (tgt := 49) rfl rfl (by omega) (fun hq => hq.elim) (fun _ => ?_)
  refine r_aload_n rfl rfl ?_
  refine s_getI (x := nI (((x.1 + 1) + 1) + 1)) rfl flX1_15 rfl rfl rfl ?_
  refine r_aload_n rfl rfl ?_
  refine s_getR (r := 3) rfl flX1_9 rfl rfl ?_
  refine s_alenB rfl rfl ?_
  refine n_icmp_ge (tgt := 49) rfl rfl (by omega) (by omega) (fun hq => absurd hq (by omega)) (fun _ => ?_)
  refine r_aload_n rfl rfl ?_
  refine s_getR (r := 3) rfl flX1_9 rfl rfl ?_
  refine r_aload_n rfl rfl ?_
  refine s_getI (x := nI (((x.1 + 1) + 1) + 1)) rfl flX1_15 rfl rfl rfl ?_
  refine r_iload_n rfl rfl ?_
  refine r_iload_n rfl rfl ?_
  refine r_ishr rfl ?_
  refine r_i2b rfl rfl ?_
  refine m_bast (L' := [(3, (aup (aup (aup (aup (σ.1 3) x.1 (vp_nar .byte ((v >>> ((nI 24) &&& 31)).toInt8.toInt32))) (x.1 + 1) (vp_nar .byte ((v >>> ((nI 16) &&& 31)).toInt8.toInt32))) ((x.1 + 1) + 1) (vp_nar .byte ((v >>> ((nI 8) &&& 31)).toInt8.toInt32))) (((x.1 + 1) + 1) + 1) (vp_nar .byte ((v >>> ((nI 0) &&& 31)).toInt8.toInt32)))), (2, (aup (aup (aup (σ.1 2) 1 (nI (x.1 + 1))) 1 (nI ((x.1 + 1) + 1))) 1 (nI (((x.1 + 1) + 1) + 1))))]) rfl rfl (by omega) rfl ?_
  refine r_aload_n rfl rfl ?_
  refine r_dup rfl rfl ?_
  refine s_getI (x := nI (((x.1 + 1) + 1) + 1)) rfl flX1_15 rfl rfl rfl ?_
  refine n_iconst 1 rfl ?_
  refine n_iadd rfl ?_
  refine m_putI (L' := [(3, (aup (aup (aup (aup (σ.1 3) x.1 (vp_nar .byte ((v >>> ((nI 24) &&& 31)).toInt8.toInt32))) (x.1 + 1) (vp_nar .byte ((v >>> ((nI 16) &&& 31)).toInt8.toInt32))) ((x.1 + 1) + 1) (vp_nar .byte ((v >>> ((nI 8) &&& 31)).toInt8.toInt32))) (((x.1 + 1) + 1) + 1) (vp_nar .byte ((v >>> ((nI 0) &&& 31)).toInt8.toInt32)))), (2, (aup (aup (aup (aup (σ.1 2) 1 (nI (x.1 + 1))) 1 (nI ((x.1 + 1) + 1))) 1 (nI (((x.1 + 1) + 1) + 1))) 1 (nI ((((x.1 + 1) + 1) + 1) + 1))))]) rfl flX1_15 rfl rfl (okv_i _) rfl ?_
  refine r_iinc (v := -8) (lv' := [(2, .int (-8)), (0, .ref 2), (1, .int v)]) rfl rfl (by decide) (Nat.le_of_ble_eq_true rfl) rfl ?_
  refine r_goto (tgt := 3) rfl rfl ?_
  refine r_iload_n rfl rfl ?_
  refine r_if_lt (tgt := 55) rfl rfl (fun _ => ?_) (fun hq => absurd hq (by decide))
  exact s_vret (st := []) rfl rfl (Nat.zero_le _) (Nat.zero_le _) (⟨rfl, _, _, rfl, rfl, TR_up (TR_up (TR_up (TR_up hT (by4_n v 24)) (by4_n v 16)) (by4_n v 8)) (by4_n v 0)⟩)

theorem c_hasRoom {z : SZ} {sc : SC} {σ : SS} {m : Nat} (h : σ.1 2 1 = nI m) (hm : m ≤ 700) : Cs z sc mX1_hasRoom 0 0 [.ref 2] σ (PI (nI (tb (decide (m + 20 ≤ 700)))) σ) := by
  refine Cs.of gmX1_hasRoom (Nat.le_of_ble_eq_true rfl) ?_
  show Ws z sc mX1_hasRoom 0 0 0 0 0 [(0, .ref 2)] [] (mz σ [] []) (PI (nI (tb (decide (m + 20 ≤ 700)))) σ)
  refine r_aload_n rfl rfl ?_
  refine s_getI (x := nI m) rfl flX1_15 rfl rfl h ?_
  refine n_bipush 20 rfl (by decide) ?_
  refine n_iadd rfl ?_
  refine n_sipush 700 rfl (by decide) ?_
  suffices K : Ws z sc mX1_hasRoom 0 0 0 0 18 [(0, .ref 2)] [.int (nI (tb (decide (m + 20 ≤ 700))))] (mz σ [] []) (PI (nI (tb (decide (m + 20 ≤ 700)))) σ) by
    refine n_icmp_gt (tgt := 17) rfl rfl (by omega) (by omega) (fun h1 => ?_) (fun h1 => ?_)
    · refine n_iconst 0 rfl ?_
      exact r_top (by rw [decide_eq_false (by omega)]; rfl) K
    · refine n_iconst 1 rfl ?_
      refine r_goto (tgt := 18) rfl rfl ?_
      exact r_top (by rw [decide_eq_true (by omega)]; rfl) K
  exact s_ret (st := []) rfl rfl (nar_tb _) (Nat.zero_le _) (Nat.zero_le _) (pI rfl rfl)

theorem c_append {z : SZ} {sc : SC} {σ : SS} {a : AB} {v1 v2 v3 v4 v5 : Int32} (hA : AV a) (hI : CI9 σ a) (hl : aL a + 20 ≤ 700) : Cs z sc mX9_append 0 0 [.ref 0, .int v1, .int v2, .int v3, .int v4, .int v5] σ (RI fun v σ' => v = nI (aL a + 20) ∧ FrM σ σ' ∧ CI9 σ' (apA a (ap5 (aL a, aT a) v1 v2 v3 v4 v5))) := by
  refine Cs.of gmX9_append (Nat.le_of_ble_eq_true rfl) ?_
  show Ws z sc mX9_append 0 0 0 0 0 [(0, .ref 0), (1, .int v1), (2, .int v2), (3, .int v3), (4, .int v4), (5, .int v5)] [] (mz σ [] []) (RI fun v σ' => v = nI (aL a + 20) ∧ FrM σ σ' ∧ CI9 σ' (apA a (ap5 (aL a, aT a) v1 v2 v3 v4 v5)))
  obtain ⟨⟨c1, c3, c4, c5, ⟨c6, c7⟩, c8, c9⟩, hSE⟩ := hI
  refine r_aload_n rfl rfl ?_
  refine s_getR (r := 1) rfl flX9_10 rfl rfl ?_
  refine s_getR (r := 2) rfl flX9_58 rfl rfl ?_
  refine s_virI [] [] rfl lkX9_62 rfl rfl rfl (c_hasRoom c6 (by omega)) rfl rfl (Nat.le_refl _) (Nat.le_refl _) rfl (rI (e1 := nI 1) (by rw [decide_eq_true hl]; rfl) ?_)
  refine n_if_ne (tgt := 15) rfl rfl (by decide) (fun _ => ?_) (fun hq => absurd hq (by decide))
  refine r_aload_n rfl rfl ?_
  refine s_getR (r := 1) rfl flX9_10 rfl rfl ?_
  refine s_getR (r := 2) rfl flX9_58 rfl rfl ?_
  refine r_iload_n rfl rfl ?_
  refine s_virV [.int v1] [] rfl lkX9_68 rfl rfl rfl (c_add (x := (aL a, aT a)) c6 c7 (by show aL a + 0 + 4 ≤ 700; omega)) rfl rfl (Nat.le_refl _) (Nat.le_refl _) rfl ?_
  rintro _ ⟨f0, e0, rfl, a0, t0⟩
  refine m_mz (L' := [(2, f0), (3, e0)]) (M' := []) rfl rfl ?_
  refine r_aload_n rfl rfl ?_
  refine s_getR (r := 1) rfl flX9_10 rfl rfl ?_
  refine s_getR (r := 2) rfl flX9_58 rfl rfl ?_
  refine r_iload_n rfl rfl ?_
  refine s_virV [.int v2] [] rfl lkX9_68 rfl rfl rfl (c_add (x := (ad4 (aL a, aT a) v1)) a0 t0 (by show aL a + 4 + 4 ≤ 700; omega)) rfl rfl (Nat.le_refl _) (Nat.le_refl _) rfl ?_
  rintro _ ⟨f1, e1, rfl, a1, t1⟩
  refine m_mz (L' := [(2, f1), (3, e1)]) (M' := []) rfl rfl ?_
  refine r_aload_n rfl rfl ?_
  refine s_getR (r := 1) rfl flX9_10 rfl rfl ?_
  refine s_getR (r := 2) rfl flX9_58 rfl rfl ?_
  refine r_iload_n rfl rfl ?_
  refine s_virV [.int v3] [] rfl lkX9_68 rfl rfl rfl (c_add (x := (ad4 (ad4 (aL a, aT a) v1) v2)) a1 t1 (by show aL a + 8 + 4 ≤ 700; omega)) rfl rfl (Nat.le_refl _) (Nat.le_refl _) rfl ?_
  rintro _ ⟨f2, e2, rfl, a2, t2⟩
  refine m_mz (L' := [(2, f2), (3, e2)]) (M' := []) rfl rfl ?_
  refine r_aload_n rfl rfl ?_
  refine s_getR (r := 1) rfl flX9_10 rfl rfl ?_
  refine s_getR (r := 2) rfl flX9_58 rfl rfl ?_
  refine r_iload rfl rfl ?_
  refine s_virV [.int v4] [] rfl lkX9_68 rfl rfl rfl (c_add (x := (ad4 (ad4 (ad4 (aL a, aT a) v1) v2) v3)) a2 t2 (by show aL a + 12 + 4 ≤ 700; omega)) rfl rfl (Nat.le_refl _) (Nat.le_refl _) rfl ?_
  rintro _ ⟨f3, e3, rfl, a3, t3⟩
  refine m_mz (L' := [(2, f3), (3, e3)]) (M' := []) rfl rfl ?_
  refine r_aload_n rfl rfl ?_
  refine s_getR (r := 1) rfl flX9_10 rfl rfl ?_
  refine s_getR (r := 2) rfl flX9_58 rfl rfl ?_
  refine r_iload rfl rfl ?_
  refine s_virV [.int v5] [] rfl lkX9_68 rfl rfl rfl (c_add (x := (ad4 (ad4 (ad4 (ad4 (aL a, aT a) v1) v2) v3) v4)) a3 t3 (by show aL a + 16 + 4 ≤ 700; omega)) rfl rfl (Nat.le_refl _) (Nat.le_refl _) rfl ?_
  rintro _ ⟨f4, e4, rfl, a4, t4⟩
  refine m_mz (L' := [(2, f4), (3, e4)]) (M' := []) rfl rfl ?_
  refine r_aload_n rfl rfl ?_
  refine s_getR (r := 1) rfl flX9_10 rfl rfl ?_
  refine s_getR (r := 2) rfl flX9_58 rfl rfl ?_
  refine s_getI (x := nI ((ad4 (ad4 (ad4 (ad4 (ad4 (aL a, aT a) v1) v2) v3) v4) v5).1)) rfl flX9_72 rfl rfl a4 ?_
  exact s_ret (st := []) rfl rfl rfl (Nat.zero_le _) (Nat.zero_le _) (⟨_, rfl, rfl, FrM_mz rfl rfl, ⟨c1, c3, c4, c5, ⟨a4, t4⟩, c8, c9⟩, hSE⟩)

theorem c_append_no {z : SZ} {sc : SC} {σ : SS} {a : AB} {v1 v2 v3 v4 v5 : Int32} (hA : AV a) (hI : CI9 σ a) (hl : ¬ aL a + 20 ≤ 700) : Cs z sc mX9_append 0 0 [.ref 0, .int v1, .int v2, .int v3, .int v4, .int v5] σ (PI (-1) σ) := by
  refine Cs.of gmX9_append (Nat.le_of_ble_eq_true rfl) ?_
  show Ws z sc mX9_append 0 0 0 0 0 [(0, .ref 0), (1, .int v1), (2, .int v2), (3, .int v3), (4, .int v4), (5, .int v5)] [] (mz σ [] []) (PI (-1) σ)
  have hL := hA.2.2.2.2.1.1
  refine r_aload_n rfl rfl ?_
  refine s_getR (r := 1) rfl flX9_10 rfl rfl ?_
  refine s_getR (r := 2) rfl flX9_58 rfl rfl ?_
  refine s_virI [] [] rfl lkX9_62 rfl rfl rfl (c_hasRoom hI.1.2.2.2.2.1.1 hL) rfl rfl (Nat.le_refl _) (Nat.le_refl _) rfl (rI (e1 := nI 0) (by rw [decide_eq_false hl]; rfl) ?_)
  refine n_if_ne (tgt := 15) rfl rfl (by decide) (fun hq => absurd hq (by decide)) (fun _ => ?_)
  refine n_m1 rfl ?_
  exact s_ret (st := []) rfl rfl rfl (Nat.zero_le _) (Nat.zero_le _) (pI rfl rfl)
