theorem l_lcmp_same {sc : SC} {μ : MI} {mc ms k n pc : Nat} {lv : List (Nat × Value)} {st : List Value} {S : AS} {Q : Out → AS → Prop} {x : Int64} {off : Int} {tgt : Nat} (h : cf (mCd μ) pc = some (.lcmp, 1)) (h2 : cf (mCd μ) (pc + 1) = some (.ifCond .eq off, 3)) (ht : (pc : Int) + 1 + off = (tgt : Int)) (kk : Wp sc μ mc ms k n tgt lv st S Q) : Wp sc μ mc ms k n pc lv (.long x :: .long x :: st) S Q := by
  have e : lg_cmp x x = 0 := by
    unfold lg_cmp
    simp
  exact r_lcmp h (r_if_eq h2 (by rw [← ht]; rfl) (fun _ => kk) (fun q => absurd e q))
theorem k_thrown {l9 : Bool} {sc : SC} {σ : SS} {t : Nat} (h : σ.1 53 0 = nI t) : Cs (true, l9) sc mX10_thrown 0 0 [.ref 53] σ (PI (nI t) σ) := by
  refine Cs.of gmX10_thrown (Nat.le_of_ble_eq_true rfl) ?_
  refine r_aload_n rfl rfl ?_
  refine s_getI (x := nI t) rfl flX10_89 rfl rfl h ?_
  exact s_ret (st := []) rfl rfl rfl (Nat.zero_le _) (Nat.zero_le _) (pI rfl rfl)
theorem op_append {sc : SC} {a : AB} (hA : AV a) (v1 v2 v3 v4 v5 : Int32) : ∃ (a' : AB) (v : Int32), AV a' ∧ (∀ σ, CI9 σ a → Cs (true, true) sc mX9_append 0 0 [.ref 0, .int v1, .int v2, .int v3, .int v4, .int v5] σ (CF σ a' v)) ∧ (∀ σ, MI9 σ a → Cs (true, true) sc mX10_append 0 0 [.ref 53, .int v1, .int v2, .int v3, .int v4, .int v5] σ (PM σ 0 a' v)) := by
  have hb : ∀ i, aT a i < 256 := hA.2.2.2.2.1.2.1
  by_cases hl : aL a + 20 ≤ 700
  · skip
    exact ⟨apA a (ap5 (aL a, aT a) v1 v2 v3 v4 v5), nI (aL a + 20), apA_ok hA (show aL a + 4 + 4 + 4 + 4 + 4 ≤ 700 by omega) (ad4_b (ad4_b (ad4_b (ad4_b (ad4_b (x := (aL a, aT a)) hb v1) v2) v3) v4) v5), fun σ hI => c_append hA hI hl, fun σ hI => QM_PM (k_append hA hI hl) (fun _ => rfl)⟩
  · skip
    exact ⟨a, -1, hA, fun σ hI => PI_CF hI (c_append_no hA hI hl), fun σ hI => QM_PM (k_append_no hA hI hl) (fun _ => rfl)⟩
theorem op_errorPosition {sc : SC} {a : AB} (hA : AV a)  : ∃ (a' : AB) (v : Int32), AV a' ∧ (∀ σ, CI9 σ a → Cs (true, true) sc mX9_errorPosition 0 0 [.ref 0] σ (CF σ a' v)) ∧ (∀ σ, MI9 σ a → Cs (true, true) sc mX10_errorPosition 0 0 [.ref 53] σ (PM σ 0 a' v)) := by
  exact ⟨a, oI (aE a), hA, fun σ hI => PI_CF hI (c_errPos hA hI), fun σ hI => QM_PM (k_errPos hA hI) (fun _ => rfl)⟩
theorem op_find {sc : SC} {a : AB} (hA : AV a)  : ∃ (a' : AB) (v : Int32), AV a' ∧ (∀ σ, CI9 σ a → Cs (true, true) sc mX9_find 0 0 [.ref 0] σ (CF σ a' v)) ∧ (∀ σ, MI9 σ a → Cs (true, true) sc mX10_find 0 0 [.ref 53] σ (PM σ 0 a' v)) := by
  exact ⟨fiA a, oI (fiN a), fiA_ok hA, fun σ hI => c_find hA hI, fun σ hI => QM_PM (k_find hA hI) (fun _ => rfl)⟩
theorem op_heirs {sc : SC} {a : AB} (hA : AV a)  : ∃ (a' : AB) (v : Int32), AV a' ∧ (∀ σ, CI9 σ a → Cs (true, true) sc mX9_heirs 0 0 [.ref 0] σ (CF σ a' v)) ∧ (∀ σ, MI9 σ a → Cs (true, true) sc mX10_heirs 0 0 [.ref 53] σ (PM σ 0 a' v)) := by
  exact ⟨a, nI (mk (he (aD a)) 12), hA, fun σ hI => PI_CF hI (c_heirs hA hI), fun σ hI => QM_PM (k_heirs hA hI) (fun _ => rfl)⟩
theorem op_leftOut {sc : SC} {a : AB} (hA : AV a)  : ∃ (a' : AB) (v : Int32), AV a' ∧ (∀ σ, CI9 σ a → Cs (true, true) sc mX9_leftOut 0 0 [.ref 0] σ (CF σ a' v)) ∧ (∀ σ, MI9 σ a → Cs (true, true) sc mX10_leftOut 0 0 [.ref 53] σ (PM σ 0 a' v)) := by
  exact ⟨a, nI (mk (ou (aD a)) 12), hA, fun σ hI => PI_CF hI (c_leftOut hA hI), fun σ hI => QM_PM (k_leftOut hA hI) (fun _ => rfl)⟩
theorem op_isBalanced {sc : SC} {a : AB} (hA : AV a)  : ∃ (a' : AB) (v : Int32), AV a' ∧ (∀ σ, CI9 σ a → Cs (true, true) sc mX9_isBalanced 0 0 [.ref 0] σ (CF σ a' v)) ∧ (∀ σ, MI9 σ a → Cs (true, true) sc mX10_isBalanced 0 0 [.ref 53] σ (PM σ 0 a' v)) := by
  exact ⟨a, nI (tb (bal (aD a))), hA, fun σ hI => PI_CF hI (c_isBalanced hA hI), fun σ hI => QM_PM (k_isBalanced hA hI) (fun _ => rfl)⟩
theorem op_undo {sc : SC} {a : AB} (hA : AV a)  : ∃ (a' : AB) (v : Int32), AV a' ∧ (∀ σ, CI9 σ a → Cs (true, true) sc mX9_undo 0 0 [.ref 0] σ (CF σ a' v)) ∧ (∀ σ, MI9 σ a → Cs (true, true) sc mX10_undo 0 0 [.ref 53] σ (PM σ 0 a' v)) := by
  rcases (show aU a = 0 ∨ ∃ u, aU a = u + 1 from by cases h : aU a with | zero => exact Or.inl rfl | succ u => exact Or.inr ⟨u, rfl⟩) with h0 | ⟨u, h0⟩
  · skip
    exact ⟨a, -1, hA, fun σ hI => PI_CF hI (c_undo0 hA hI h0), fun σ hI => QM_PM (k_undo0 hA hI h0) (fun _ => rfl)⟩
  · skip
    exact ⟨(aS a u, (u, aS a), a.2.2), nI u, undo_ok hA h0, fun σ hI => c_undo1 hA hI h0, fun σ hI => QM_PM (k_undo1 hA hI h0) (fun _ => rfl)⟩
theorem op_setAccrue {sc : SC} {a : AB} (hA : AV a) (b : Bool) : ∃ (a' : AB) (v : Int32), AV a' ∧ (∀ σ, CI9 σ a → Cs (true, true) sc mX9_setAccrue 0 0 [.ref 0, .int (nI (tb b))] σ (CF σ a' v)) ∧ (∀ σ, MI9 σ a → Cs (true, true) sc mX10_setAccrue 0 0 [.ref 53, .int (nI (tb b))] σ (PM σ 0 a' v)) := by
  have hV := hA.1
  have hC := vC hV
  have hV2 : Vd (up (aD a) 0 9 (tb b)) := Vdup hV rfl ⟨fun z => absurd z (by decide), fun z => absurd z (by decide), fun z => absurd z (by decide), fun z => absurd z (by decide), fun z => absurd z (by decide), fun z => absurd z (by decide), fun z => absurd z (by decide), fun z => absurd z (by decide), fun _ => ⟨fun _ => by have := tb_le b; omega, fun z => absurd z (by decide), fun z => absurd z (by decide)⟩⟩
  have hSm : Sm (aD a) (up (aD a) 0 9 (tb b)) := Smup rfl
  exact ⟨nx a (up (aD a) 0 9 (tb b)), nI (mk (he (up (aD a) 0 9 (tb b))) 12), pu_ok hA hV2 hSm, fun σ hI => c_setAccrue hA hI, fun σ hI => QM_PM (k_setAccrue hA hI) (fun _ => rfl)⟩
set_option maxRecDepth 100000 in
theorem law_append {sc : SC} {σ : SS} {a : AB} {i k n : Nat} {Q : Out → SS → Prop} (hA : AV a) (hI : CI9 σ a) (hM : MI9 σ a) (hi : i + 6 ≤ sc.1) (hL : sc.1 ≤ 3072) (hk : k + 1 ≤ 1112) (hn : n + 6 ≤ 13189) (K : ∀ σ' a' k' n', AV a' → CI9 σ' a' → MI9 σ' a' → k' ≤ k + 1 → n' ≤ n + 6 → Ws (true, true) sc mL_law 1112 13189 k' n' 1769 [(0, .retAddr 100), (1, .ref 0), (2, .ref 53), (3, .ref 76), (4, .int (nI i))] [] σ' Q) : Ws (true, true) sc mL_law 1112 13189 k n 176 [(0, .retAddr 100), (1, .ref 0), (2, .ref 53), (3, .ref 76), (4, .int (nI i))] [] σ Q := by
  have hi2 : sc.1 < 2147483648 := by omega
  refine r_aload_n rfl rfl ?_
  refine r_aload_nK rfl rfl (by decide) ?_
  refine r_iload rfl rfl ?_
  refine n_iconst 1 rfl ?_
  refine n_iadd rfl ?_
  refine r_sld (j := i + 1) rfl (by decide) (by omega) (by omega) ?_
  refine r_aload_nK rfl rfl (by decide) ?_
  refine r_iload rfl rfl ?_
  refine n_iconst 2 rfl ?_
  refine n_iadd rfl ?_
  refine r_sld (j := i + 2) rfl (by decide) (by omega) (by omega) ?_
  refine r_aload_nK rfl rfl (by decide) ?_
  refine r_iload rfl rfl ?_
  refine n_iconst 3 rfl ?_
  refine n_iadd rfl ?_
  refine r_sld (j := i + 3) rfl (by decide) (by omega) (by omega) ?_
  refine r_aload_nK rfl rfl (by decide) ?_
  refine r_iload rfl rfl ?_
  refine n_iconst 4 rfl ?_
  refine n_iadd rfl ?_
  refine r_sld (j := i + 4) rfl (by decide) (by omega) (by omega) ?_
  refine r_aload_nK rfl rfl (by decide) ?_
  refine r_iload rfl rfl ?_
  refine n_iconst 5 rfl ?_
  refine n_iadd rfl ?_
  refine r_sld (j := i + 5) rfl (by decide) (by omega) (by omega) ?_
  obtain ⟨a', v, hA', hCc, hMm⟩ := op_append (sc := sc) hA (sc.2 (i + 1)) (sc.2 (i + 2)) (sc.2 (i + 3)) (sc.2 (i + 4)) (sc.2 (i + 5))
  refine s_virI [.int (sc.2 (i + 1)), .int (sc.2 (i + 2)), .int (sc.2 (i + 3)), .int (sc.2 (i + 4)), .int (sc.2 (i + 5))] [] rfl lkL_89 rfl rfl rfl (hCc σ hI) rfl rfl (by omega) (by omega) rfl ?_
  rintro r1 σ1 ⟨hr1, hF1, hI1⟩
  rw [hr1]
  have hM1 := MI9_fr hF1 hM
  refine r_aload_n rfl rfl ?_
  refine r_aload_nK rfl rfl (by decide) ?_
  refine r_iload rfl rfl ?_
  refine n_iconst 1 rfl ?_
  refine n_iadd rfl ?_
  refine r_sld (j := i + 1) rfl (by decide) (by omega) (by omega) ?_
  refine r_aload_nK rfl rfl (by decide) ?_
  refine r_iload rfl rfl ?_
  refine n_iconst 2 rfl ?_
  refine n_iadd rfl ?_
  refine r_sld (j := i + 2) rfl (by decide) (by omega) (by omega) ?_
  refine r_aload_nK rfl rfl (by decide) ?_
  refine r_iload rfl rfl ?_
  refine n_iconst 3 rfl ?_
  refine n_iadd rfl ?_
  refine r_sld (j := i + 3) rfl (by decide) (by omega) (by omega) ?_
  refine r_aload_nK rfl rfl (by decide) ?_
  refine r_iload rfl rfl ?_
  refine n_iconst 4 rfl ?_
  refine n_iadd rfl ?_
  refine r_sld (j := i + 4) rfl (by decide) (by omega) (by omega) ?_
  refine r_aload_nK rfl rfl (by decide) ?_
  refine r_iload rfl rfl ?_
  refine n_iconst 5 rfl ?_
  refine n_iadd rfl ?_
  refine r_sld (j := i + 5) rfl (by decide) (by omega) (by omega) ?_
  refine s_virI [.int (sc.2 (i + 1)), .int (sc.2 (i + 2)), .int (sc.2 (i + 3)), .int (sc.2 (i + 4)), .int (sc.2 (i + 5))] [.int v] rfl lkL_93 rfl rfl rfl (hMm σ1 hM1) rfl rfl (by omega) (by omega) rfl ?_
  rintro v6 σ2 ⟨hv2, ht, hF2, hM2⟩
  have hI2 := CI9_fr hF2.D hI1
  rw [hv2 rfl]
  refine r_icmp_eq (tgt := 1769) rfl rfl (fun _ => ?_) (fun hq => absurd hq (fun z => z rfl))
  refine r_lv (lv' := [(0, .retAddr 100), (1, .ref 0), (2, .ref 53), (3, .ref 76), (4, .int (nI i))]) [0, 1, 2, 3, 4] rfl ?_
  exact K _ _ _ _ hA' hI2 hM2 (by omega) (by omega)

set_option maxRecDepth 100000 in
theorem law_parse {sc : SC} {σ : SS} {a : AB} {i k n : Nat} {Q : Out → SS → Prop} (hA : AV a) (hI : CI9 σ a) (hM : MI9 σ a) (hi : i + 6 ≤ sc.1) (hL : sc.1 ≤ 3072) (hk : k + 1 ≤ 1112) (hn : n + 6 ≤ 13189) (K : ∀ σ' a' k' n', AV a' → CI9 σ' a' → MI9 σ' a' → k' ≤ k + 1 → n' ≤ n + 6 → Ws (true, true) sc mL_law 1112 13189 k' n' 1769 [(0, .retAddr 100), (1, .ref 0), (2, .ref 53), (3, .ref 76), (4, .int (nI i))] [] σ' Q) : Ws (true, true) sc mL_law 1112 13189 k n 249 [(0, .retAddr 100), (1, .ref 0), (2, .ref 53), (3, .ref 76), (4, .int (nI i))] [] σ Q := by
  have hi2 : sc.1 < 2147483648 := by omega
  refine r_aload_n rfl rfl ?_
  refine r_aload_nK rfl rfl (by decide) ?_
  refine r_iload rfl rfl ?_
  refine n_iconst 1 rfl ?_
  refine n_iadd rfl ?_
  refine r_sld (j := i + 1) rfl (by decide) (by omega) (by omega) ?_
  refine r_aload_n rfl rfl ?_
  obtain ⟨c, a', v, hc, hA', hCc, hMm⟩ := op_parse (sc := sc) hA (sc.2 (i + 1))
  refine s_staWI [.ref 0, .int (sc.2 (i + 1)), .ref 76] [] rfl lkL_94 (hCc σ hI) rfl rfl (by omega) (by omega) ?_
  rintro _ σ1 ⟨rfl, hv1, hF1, hI1⟩
  have hM1 := MI9_fr hF1 hM
  refine r_istore (lv' := [(5, .int (nI c)), (0, .retAddr 100), (1, .ref 0), (2, .ref 53), (3, .ref 76), (4, .int (nI i))]) rfl (Nat.le_of_ble_eq_true rfl) rfl ?_
  refine r_aload_n rfl rfl ?_
  refine r_aload_nK rfl rfl (by decide) ?_
  refine r_iload rfl rfl ?_
  refine n_iconst 1 rfl ?_
  refine n_iadd rfl ?_
  refine r_sld (j := i + 1) rfl (by decide) (by omega) (by omega) ?_
  refine s_virI [.int (sc.2 (i + 1))] [] rfl lkL_99 rfl rfl rfl (hMm σ1 hM1) rfl rfl (by omega) (by omega) rfl ?_
  rintro v6 σ2 ⟨hv2, ht, hF2, hM2⟩
  have hI2 := CI9_fr hF2.D hI1
  refine r_istore (lv' := [(6, .int v6), (5, .int (nI c)), (0, .retAddr 100), (1, .ref 0), (2, .ref 53), (3, .ref 76), (4, .int (nI i))]) rfl (Nat.le_of_ble_eq_true rfl) rfl ?_
  refine r_aload_n rfl rfl ?_
  refine s_virI [] [] rfl lkL_100 rfl rfl rfl (k_thrown ht) rfl rfl (by omega) (by omega) rfl (rI (e1 := nI c) rfl ?_)
  refine r_iload rfl rfl ?_
  refine n_icmp_eq (tgt := 285) rfl rfl (by omega) (by omega) (fun _ => ?_) (fun hq => absurd hq (fun z => z rfl))
  refine r_iload rfl rfl ?_
  refine n_if_ne (tgt := 302) rfl rfl (by omega) (fun hc0 => ?_) (fun hc0 => ?_)
  · refine r_goto (tgt := 1769) rfl rfl ?_
    refine r_lv (lv' := [(0, .retAddr 100), (1, .ref 0), (2, .ref 53), (3, .ref 76), (4, .int (nI i))]) [2, 3, 4, 5, 6] rfl ?_
    exact K _ _ _ _ hA' hI2 hM2 (by omega) (by omega)
  · have h0 : c = 0 := by omega
    rw [hv2 h0]
    have hout : σ2.2 76 0 = _ := (show σ2.2 76 0 = σ1.2 76 0 from by rw [(hF2 76 (Or.inr rfl)).2]).trans (hv1 h0)
    refine r_aload_n rfl rfl ?_
    refine n_iconst 0 rfl ?_
    refine s_lald (x := v.toInt64) rfl rfl (by decide) (hout) ?_
    refine r_iload rfl rfl ?_
    refine r_i2l rfl rfl ?_
    refine l_lcmp_same (tgt := 302) rfl rfl rfl ?_
    refine r_goto (tgt := 1769) rfl rfl ?_
    refine r_lv (lv' := [(0, .retAddr 100), (1, .ref 0), (2, .ref 53), (3, .ref 76), (4, .int (nI i))]) [2, 3, 4, 5, 6] rfl ?_
    exact K _ _ _ _ hA' hI2 hM2 (by omega) (by omega)

set_option maxRecDepth 100000 in
theorem law_errorPosition {sc : SC} {σ : SS} {a : AB} {i k n : Nat} {Q : Out → SS → Prop} (hA : AV a) (hI : CI9 σ a) (hM : MI9 σ a) (hi : i + 6 ≤ sc.1) (hL : sc.1 ≤ 3072) (hk : k + 1 ≤ 1112) (hn : n + 6 ≤ 13189) (K : ∀ σ' a' k' n', AV a' → CI9 σ' a' → MI9 σ' a' → k' ≤ k + 1 → n' ≤ n + 6 → Ws (true, true) sc mL_law 1112 13189 k' n' 1769 [(0, .retAddr 100), (1, .ref 0), (2, .ref 53), (3, .ref 76), (4, .int (nI i))] [] σ' Q) : Ws (true, true) sc mL_law 1112 13189 k n 305 [(0, .retAddr 100), (1, .ref 0), (2, .ref 53), (3, .ref 76), (4, .int (nI i))] [] σ Q := by
  have hi2 : sc.1 < 2147483648 := by omega
  refine r_aload_n rfl rfl ?_
  obtain ⟨a', v, hA', hCc, hMm⟩ := op_errorPosition (sc := sc) hA 
  refine s_virI [] [] rfl lkL_104 rfl rfl rfl (hCc σ hI) rfl rfl (by omega) (by omega) rfl ?_
  rintro r1 σ1 ⟨hr1, hF1, hI1⟩
  rw [hr1]
  have hM1 := MI9_fr hF1 hM
  refine r_aload_n rfl rfl ?_
  refine s_virI [] [.int v] rfl lkL_107 rfl rfl rfl (hMm σ1 hM1) rfl rfl (by omega) (by omega) rfl ?_
  rintro v6 σ2 ⟨hv2, ht, hF2, hM2⟩
  have hI2 := CI9_fr hF2.D hI1
  rw [hv2 rfl]
  refine r_icmp_eq (tgt := 1769) rfl rfl (fun _ => ?_) (fun hq => absurd hq (fun z => z rfl))
  refine r_lv (lv' := [(0, .retAddr 100), (1, .ref 0), (2, .ref 53), (3, .ref 76), (4, .int (nI i))]) [0, 1, 2, 3, 4] rfl ?_
  exact K _ _ _ _ hA' hI2 hM2 (by omega) (by omega)

set_option maxRecDepth 100000 in
theorem law_size {sc : SC} {σ : SS} {a : AB} {i k n : Nat} {Q : Out → SS → Prop} (hA : AV a) (hI : CI9 σ a) (hM : MI9 σ a) (hi : i + 6 ≤ sc.1) (hL : sc.1 ≤ 3072) (hk : k + 1 ≤ 1112) (hn : n + 6 ≤ 13189) (K : ∀ σ' a' k' n', AV a' → CI9 σ' a' → MI9 σ' a' → k' ≤ k + 1 → n' ≤ n + 6 → Ws (true, true) sc mL_law 1112 13189 k' n' 1769 [(0, .retAddr 100), (1, .ref 0), (2, .ref 53), (3, .ref 76), (4, .int (nI i))] [] σ' Q) : Ws (true, true) sc mL_law 1112 13189 k n 318 [(0, .retAddr 100), (1, .ref 0), (2, .ref 53), (3, .ref 76), (4, .int (nI i))] [] σ Q := by
  have hi2 : sc.1 < 2147483648 := by omega
  refine r_aload_n rfl rfl ?_
  refine r_aload_nK rfl rfl (by decide) ?_
  refine r_iload rfl rfl ?_
  refine n_iconst 1 rfl ?_
  refine n_iadd rfl ?_
  refine r_sld (j := i + 1) rfl (by decide) (by omega) (by omega) ?_
  refine r_aload_n rfl rfl ?_
  obtain ⟨c, a', v, hc, hA', hCc, hMm⟩ := op_size (sc := sc) hA (sc.2 (i + 1))
  refine s_staWI [.ref 0, .int (sc.2 (i + 1)), .ref 76] [] rfl lkL_108 (hCc σ hI) rfl rfl (by omega) (by omega) ?_
  rintro _ σ1 ⟨rfl, hv1, hF1, hI1⟩
  have hM1 := MI9_fr hF1 hM
  refine r_istore (lv' := [(5, .int (nI c)), (0, .retAddr 100), (1, .ref 0), (2, .ref 53), (3, .ref 76), (4, .int (nI i))]) rfl (Nat.le_of_ble_eq_true rfl) rfl ?_
  refine r_aload_n rfl rfl ?_
  refine r_aload_nK rfl rfl (by decide) ?_
  refine r_iload rfl rfl ?_
  refine n_iconst 1 rfl ?_
  refine n_iadd rfl ?_
  refine r_sld (j := i + 1) rfl (by decide) (by omega) (by omega) ?_
  refine s_virI [.int (sc.2 (i + 1))] [] rfl lkL_110 rfl rfl rfl (hMm σ1 hM1) rfl rfl (by omega) (by omega) rfl ?_
  rintro v6 σ2 ⟨hv2, ht, hF2, hM2⟩
  have hI2 := CI9_fr hF2.D hI1
  refine r_istore (lv' := [(6, .int v6), (5, .int (nI c)), (0, .retAddr 100), (1, .ref 0), (2, .ref 53), (3, .ref 76), (4, .int (nI i))]) rfl (Nat.le_of_ble_eq_true rfl) rfl ?_
  refine r_aload_n rfl rfl ?_
  refine s_virI [] [] rfl lkL_100 rfl rfl rfl (k_thrown ht) rfl rfl (by omega) (by omega) rfl (rI (e1 := nI c) rfl ?_)
  refine r_iload rfl rfl ?_
  refine n_icmp_eq (tgt := 354) rfl rfl (by omega) (by omega) (fun _ => ?_) (fun hq => absurd hq (fun z => z rfl))
  refine r_iload rfl rfl ?_
  refine n_if_ne (tgt := 371) rfl rfl (by omega) (fun hc0 => ?_) (fun hc0 => ?_)
  · refine r_goto (tgt := 1769) rfl rfl ?_
    refine r_lv (lv' := [(0, .retAddr 100), (1, .ref 0), (2, .ref 53), (3, .ref 76), (4, .int (nI i))]) [2, 3, 4, 5, 6] rfl ?_
    exact K _ _ _ _ hA' hI2 hM2 (by omega) (by omega)
  · have h0 : c = 0 := by omega
    rw [hv2 h0]
    have hout : σ2.2 76 0 = _ := (show σ2.2 76 0 = σ1.2 76 0 from by rw [(hF2 76 (Or.inr rfl)).2]).trans (hv1 h0)
    refine r_aload_n rfl rfl ?_
    refine n_iconst 0 rfl ?_
    refine s_lald (x := v.toInt64) rfl rfl (by decide) (hout) ?_
    refine r_iload rfl rfl ?_
    refine r_i2l rfl rfl ?_
    refine l_lcmp_same (tgt := 371) rfl rfl rfl ?_
    refine r_goto (tgt := 1769) rfl rfl ?_
    refine r_lv (lv' := [(0, .retAddr 100), (1, .ref 0), (2, .ref 53), (3, .ref 76), (4, .int (nI i))]) [2, 3, 4, 5, 6] rfl ?_
    exact K _ _ _ _ hA' hI2 hM2 (by omega) (by omega)

set_option maxRecDepth 100000 in
theorem law_find {sc : SC} {σ : SS} {a : AB} {i k n : Nat} {Q : Out → SS → Prop} (hA : AV a) (hI : CI9 σ a) (hM : MI9 σ a) (hi : i + 6 ≤ sc.1) (hL : sc.1 ≤ 3072) (hk : k + 1 ≤ 1112) (hn : n + 6 ≤ 13189) (K : ∀ σ' a' k' n', AV a' → CI9 σ' a' → MI9 σ' a' → k' ≤ k + 1 → n' ≤ n + 6 → Ws (true, true) sc mL_law 1112 13189 k' n' 1769 [(0, .retAddr 100), (1, .ref 0), (2, .ref 53), (3, .ref 76), (4, .int (nI i))] [] σ' Q) : Ws (true, true) sc mL_law 1112 13189 k n 374 [(0, .retAddr 100), (1, .ref 0), (2, .ref 53), (3, .ref 76), (4, .int (nI i))] [] σ Q := by
  have hi2 : sc.1 < 2147483648 := by omega
  refine r_aload_n rfl rfl ?_
  obtain ⟨a', v, hA', hCc, hMm⟩ := op_find (sc := sc) hA 
  refine s_virI [] [] rfl lkL_111 rfl rfl rfl (hCc σ hI) rfl rfl (by omega) (by omega) rfl ?_
  rintro r1 σ1 ⟨hr1, hF1, hI1⟩
  rw [hr1]
  have hM1 := MI9_fr hF1 hM
  refine r_aload_n rfl rfl ?_
  refine s_virI [] [.int v] rfl lkL_114 rfl rfl rfl (hMm σ1 hM1) rfl rfl (by omega) (by omega) rfl ?_
  rintro v6 σ2 ⟨hv2, ht, hF2, hM2⟩
  have hI2 := CI9_fr hF2.D hI1
  rw [hv2 rfl]
  refine r_icmp_eq (tgt := 1769) rfl rfl (fun _ => ?_) (fun hq => absurd hq (fun z => z rfl))
  refine r_lv (lv' := [(0, .retAddr 100), (1, .ref 0), (2, .ref 53), (3, .ref 76), (4, .int (nI i))]) [0, 1, 2, 3, 4] rfl ?_
  exact K _ _ _ _ hA' hI2 hM2 (by omega) (by omega)

set_option maxRecDepth 100000 in
theorem law_person {sc : SC} {σ : SS} {a : AB} {i k n : Nat} {Q : Out → SS → Prop} (hA : AV a) (hI : CI9 σ a) (hM : MI9 σ a) (hi : i + 6 ≤ sc.1) (hL : sc.1 ≤ 3072) (hk : k + 1 ≤ 1112) (hn : n + 6 ≤ 13189) (K : ∀ σ' a' k' n', AV a' → CI9 σ' a' → MI9 σ' a' → k' ≤ k + 1 → n' ≤ n + 6 → Ws (true, true) sc mL_law 1112 13189 k' n' 1769 [(0, .retAddr 100), (1, .ref 0), (2, .ref 53), (3, .ref 76), (4, .int (nI i))] [] σ' Q) : Ws (true, true) sc mL_law 1112 13189 k n 387 [(0, .retAddr 100), (1, .ref 0), (2, .ref 53), (3, .ref 76), (4, .int (nI i))] [] σ Q := by
  have hi2 : sc.1 < 2147483648 := by omega
  refine r_aload_n rfl rfl ?_
  refine r_aload_nK rfl rfl (by decide) ?_
  refine r_iload rfl rfl ?_
  refine n_iconst 1 rfl ?_
  refine n_iadd rfl ?_
  refine r_sld (j := i + 1) rfl (by decide) (by omega) (by omega) ?_
  refine r_aload_nK rfl rfl (by decide) ?_
  refine r_iload rfl rfl ?_
  refine n_iconst 2 rfl ?_
  refine n_iadd rfl ?_
  refine r_sld (j := i + 2) rfl (by decide) (by omega) (by omega) ?_
  refine r_aload_n rfl rfl ?_
  obtain ⟨c, a', v, hc, hA', hCc, hMm⟩ := op_person (sc := sc) hA (sc.2 (i + 1)) (sc.2 (i + 2))
  refine s_staWI [.ref 0, .int (sc.2 (i + 1)), .int (sc.2 (i + 2)), .ref 76] [] rfl lkL_115 (hCc σ hI) rfl rfl (by omega) (by omega) ?_
  rintro _ σ1 ⟨rfl, hv1, hF1, hI1⟩
  have hM1 := MI9_fr hF1 hM
  refine r_istore (lv' := [(5, .int (nI c)), (0, .retAddr 100), (1, .ref 0), (2, .ref 53), (3, .ref 76), (4, .int (nI i))]) rfl (Nat.le_of_ble_eq_true rfl) rfl ?_
  refine r_aload_n rfl rfl ?_
  refine r_aload_nK rfl rfl (by decide) ?_
  refine r_iload rfl rfl ?_
  refine n_iconst 1 rfl ?_
  refine n_iadd rfl ?_
  refine r_sld (j := i + 1) rfl (by decide) (by omega) (by omega) ?_
  refine r_aload_nK rfl rfl (by decide) ?_
  refine r_iload rfl rfl ?_
  refine n_iconst 2 rfl ?_
  refine n_iadd rfl ?_
  refine r_sld (j := i + 2) rfl (by decide) (by omega) (by omega) ?_
  refine s_virI [.int (sc.2 (i + 1)), .int (sc.2 (i + 2))] [] rfl lkL_118 rfl rfl rfl (hMm σ1 hM1) rfl rfl (by omega) (by omega) rfl ?_
  rintro v6 σ2 ⟨hv2, ht, hF2, hM2⟩
  have hI2 := CI9_fr hF2.D hI1
  refine r_istore (lv' := [(6, .int v6), (5, .int (nI c)), (0, .retAddr 100), (1, .ref 0), (2, .ref 53), (3, .ref 76), (4, .int (nI i))]) rfl (Nat.le_of_ble_eq_true rfl) rfl ?_
  refine r_aload_n rfl rfl ?_
  refine s_virI [] [] rfl lkL_100 rfl rfl rfl (k_thrown ht) rfl rfl (by omega) (by omega) rfl (rI (e1 := nI c) rfl ?_)
  refine r_iload rfl rfl ?_
  refine n_icmp_eq (tgt := 435) rfl rfl (by omega) (by omega) (fun _ => ?_) (fun hq => absurd hq (fun z => z rfl))
  refine r_iload rfl rfl ?_
  refine n_if_ne (tgt := 452) rfl rfl (by omega) (fun hc0 => ?_) (fun hc0 => ?_)
  · refine r_goto (tgt := 1769) rfl rfl ?_
    refine r_lv (lv' := [(0, .retAddr 100), (1, .ref 0), (2, .ref 53), (3, .ref 76), (4, .int (nI i))]) [2, 3, 4, 5, 6] rfl ?_
    exact K _ _ _ _ hA' hI2 hM2 (by omega) (by omega)
  · have h0 : c = 0 := by omega
    rw [hv2 h0]
    have hout : σ2.2 76 0 = _ := (show σ2.2 76 0 = σ1.2 76 0 from by rw [(hF2 76 (Or.inr rfl)).2]).trans (hv1 h0)
    refine r_aload_n rfl rfl ?_
    refine n_iconst 0 rfl ?_
    refine s_lald (x := v.toInt64) rfl rfl (by decide) (hout) ?_
    refine r_iload rfl rfl ?_
    refine r_i2l rfl rfl ?_
    refine l_lcmp_same (tgt := 452) rfl rfl rfl ?_
    refine r_goto (tgt := 1769) rfl rfl ?_
    refine r_lv (lv' := [(0, .retAddr 100), (1, .ref 0), (2, .ref 53), (3, .ref 76), (4, .int (nI i))]) [2, 3, 4, 5, 6] rfl ?_
    exact K _ _ _ _ hA' hI2 hM2 (by omega) (by omega)

set_option maxRecDepth 100000 in
theorem law_asset {sc : SC} {σ : SS} {a : AB} {i k n : Nat} {Q : Out → SS → Prop} (hA : AV a) (hI : CI9 σ a) (hM : MI9 σ a) (hi : i + 6 ≤ sc.1) (hL : sc.1 ≤ 3072) (hk : k + 1 ≤ 1112) (hn : n + 6 ≤ 13189) (K : ∀ σ' a' k' n', AV a' → CI9 σ' a' → MI9 σ' a' → k' ≤ k + 1 → n' ≤ n + 6 → Ws (true, true) sc mL_law 1112 13189 k' n' 1769 [(0, .retAddr 100), (1, .ref 0), (2, .ref 53), (3, .ref 76), (4, .int (nI i))] [] σ' Q) : Ws (true, true) sc mL_law 1112 13189 k n 455 [(0, .retAddr 100), (1, .ref 0), (2, .ref 53), (3, .ref 76), (4, .int (nI i))] [] σ Q := by
  have hi2 : sc.1 < 2147483648 := by omega
  refine r_aload_n rfl rfl ?_
  refine r_aload_nK rfl rfl (by decide) ?_
  refine r_iload rfl rfl ?_
  refine n_iconst 1 rfl ?_
  refine n_iadd rfl ?_
  refine r_sld (j := i + 1) rfl (by decide) (by omega) (by omega) ?_
  refine r_aload_nK rfl rfl (by decide) ?_
  refine r_iload rfl rfl ?_
  refine n_iconst 2 rfl ?_
  refine n_iadd rfl ?_
  refine r_sld (j := i + 2) rfl (by decide) (by omega) (by omega) ?_
  refine r_aload_n rfl rfl ?_
  obtain ⟨c, a', v, hc, hA', hCc, hMm⟩ := op_asset (sc := sc) hA (sc.2 (i + 1)) (sc.2 (i + 2))
  refine s_staWI [.ref 0, .int (sc.2 (i + 1)), .int (sc.2 (i + 2)), .ref 76] [] rfl lkL_119 (hCc σ hI) rfl rfl (by omega) (by omega) ?_
  rintro _ σ1 ⟨rfl, hv1, hF1, hI1⟩
  have hM1 := MI9_fr hF1 hM
  refine r_istore (lv' := [(5, .int (nI c)), (0, .retAddr 100), (1, .ref 0), (2, .ref 53), (3, .ref 76), (4, .int (nI i))]) rfl (Nat.le_of_ble_eq_true rfl) rfl ?_
  refine r_aload_n rfl rfl ?_
  refine r_aload_nK rfl rfl (by decide) ?_
  refine r_iload rfl rfl ?_
  refine n_iconst 1 rfl ?_
  refine n_iadd rfl ?_
  refine r_sld (j := i + 1) rfl (by decide) (by omega) (by omega) ?_
  refine r_aload_nK rfl rfl (by decide) ?_
  refine r_iload rfl rfl ?_
  refine n_iconst 2 rfl ?_
  refine n_iadd rfl ?_
  refine r_sld (j := i + 2) rfl (by decide) (by omega) (by omega) ?_
  refine s_virI [.int (sc.2 (i + 1)), .int (sc.2 (i + 2))] [] rfl lkL_121 rfl rfl rfl (hMm σ1 hM1) rfl rfl (by omega) (by omega) rfl ?_
  rintro v6 σ2 ⟨hv2, ht, hF2, hM2⟩
  have hI2 := CI9_fr hF2.D hI1
  refine r_istore (lv' := [(6, .int v6), (5, .int (nI c)), (0, .retAddr 100), (1, .ref 0), (2, .ref 53), (3, .ref 76), (4, .int (nI i))]) rfl (Nat.le_of_ble_eq_true rfl) rfl ?_
  refine r_aload_n rfl rfl ?_
  refine s_virI [] [] rfl lkL_100 rfl rfl rfl (k_thrown ht) rfl rfl (by omega) (by omega) rfl (rI (e1 := nI c) rfl ?_)
  refine r_iload rfl rfl ?_
  refine n_icmp_eq (tgt := 503) rfl rfl (by omega) (by omega) (fun _ => ?_) (fun hq => absurd hq (fun z => z rfl))
  refine r_iload rfl rfl ?_
  refine n_if_ne (tgt := 520) rfl rfl (by omega) (fun hc0 => ?_) (fun hc0 => ?_)
  · refine r_goto (tgt := 1769) rfl rfl ?_
    refine r_lv (lv' := [(0, .retAddr 100), (1, .ref 0), (2, .ref 53), (3, .ref 76), (4, .int (nI i))]) [2, 3, 4, 5, 6] rfl ?_
    exact K _ _ _ _ hA' hI2 hM2 (by omega) (by omega)
  · have h0 : c = 0 := by omega
    rw [hv2 h0]
    have hout : σ2.2 76 0 = _ := (show σ2.2 76 0 = σ1.2 76 0 from by rw [(hF2 76 (Or.inr rfl)).2]).trans (hv1 h0)
    refine r_aload_n rfl rfl ?_
    refine n_iconst 0 rfl ?_
    refine s_lald (x := v.toInt64) rfl rfl (by decide) (hout) ?_
    refine r_iload rfl rfl ?_
    refine r_i2l rfl rfl ?_
    refine l_lcmp_same (tgt := 520) rfl rfl rfl ?_
    refine r_goto (tgt := 1769) rfl rfl ?_
    refine r_lv (lv' := [(0, .retAddr 100), (1, .ref 0), (2, .ref 53), (3, .ref 76), (4, .int (nI i))]) [2, 3, 4, 5, 6] rfl ?_
    exact K _ _ _ _ hA' hI2 hM2 (by omega) (by omega)

set_option maxRecDepth 100000 in
theorem law_debt {sc : SC} {σ : SS} {a : AB} {i k n : Nat} {Q : Out → SS → Prop} (hA : AV a) (hI : CI9 σ a) (hM : MI9 σ a) (hi : i + 6 ≤ sc.1) (hL : sc.1 ≤ 3072) (hk : k + 1 ≤ 1112) (hn : n + 6 ≤ 13189) (K : ∀ σ' a' k' n', AV a' → CI9 σ' a' → MI9 σ' a' → k' ≤ k + 1 → n' ≤ n + 6 → Ws (true, true) sc mL_law 1112 13189 k' n' 1769 [(0, .retAddr 100), (1, .ref 0), (2, .ref 53), (3, .ref 76), (4, .int (nI i))] [] σ' Q) : Ws (true, true) sc mL_law 1112 13189 k n 523 [(0, .retAddr 100), (1, .ref 0), (2, .ref 53), (3, .ref 76), (4, .int (nI i))] [] σ Q := by
  have hi2 : sc.1 < 2147483648 := by omega
  refine r_aload_n rfl rfl ?_
  refine r_aload_nK rfl rfl (by decide) ?_
  refine r_iload rfl rfl ?_
  refine n_iconst 1 rfl ?_
  refine n_iadd rfl ?_
  refine r_sld (j := i + 1) rfl (by decide) (by omega) (by omega) ?_
  refine r_aload_nK rfl rfl (by decide) ?_
  refine r_iload rfl rfl ?_
  refine n_iconst 2 rfl ?_
  refine n_iadd rfl ?_
  refine r_sld (j := i + 2) rfl (by decide) (by omega) (by omega) ?_
  refine r_aload_n rfl rfl ?_
  obtain ⟨c, a', v, hc, hA', hCc, hMm⟩ := op_debt (sc := sc) hA (sc.2 (i + 1)) (sc.2 (i + 2))
  refine s_staWI [.ref 0, .int (sc.2 (i + 1)), .int (sc.2 (i + 2)), .ref 76] [] rfl lkL_122 (hCc σ hI) rfl rfl (by omega) (by omega) ?_
  rintro _ σ1 ⟨rfl, hv1, hF1, hI1⟩
  have hM1 := MI9_fr hF1 hM
  refine r_istore (lv' := [(5, .int (nI c)), (0, .retAddr 100), (1, .ref 0), (2, .ref 53), (3, .ref 76), (4, .int (nI i))]) rfl (Nat.le_of_ble_eq_true rfl) rfl ?_
  refine r_aload_n rfl rfl ?_
  refine r_aload_nK rfl rfl (by decide) ?_
  refine r_iload rfl rfl ?_
  refine n_iconst 1 rfl ?_
  refine n_iadd rfl ?_
  refine r_sld (j := i + 1) rfl (by decide) (by omega) (by omega) ?_
  refine r_aload_nK rfl rfl (by decide) ?_
  refine r_iload rfl rfl ?_
  refine n_iconst 2 rfl ?_
  refine n_iadd rfl ?_
  refine r_sld (j := i + 2) rfl (by decide) (by omega) (by omega) ?_
  refine s_virI [.int (sc.2 (i + 1)), .int (sc.2 (i + 2))] [] rfl lkL_124 rfl rfl rfl (hMm σ1 hM1) rfl rfl (by omega) (by omega) rfl ?_
  rintro v6 σ2 ⟨hv2, ht, hF2, hM2⟩
  have hI2 := CI9_fr hF2.D hI1
  refine r_istore (lv' := [(6, .int v6), (5, .int (nI c)), (0, .retAddr 100), (1, .ref 0), (2, .ref 53), (3, .ref 76), (4, .int (nI i))]) rfl (Nat.le_of_ble_eq_true rfl) rfl ?_
  refine r_aload_n rfl rfl ?_
  refine s_virI [] [] rfl lkL_100 rfl rfl rfl (k_thrown ht) rfl rfl (by omega) (by omega) rfl (rI (e1 := nI c) rfl ?_)
  refine r_iload rfl rfl ?_
  refine n_icmp_eq (tgt := 571) rfl rfl (by omega) (by omega) (fun _ => ?_) (fun hq => absurd hq (fun z => z rfl))
  refine r_iload rfl rfl ?_
  refine n_if_ne (tgt := 588) rfl rfl (by omega) (fun hc0 => ?_) (fun hc0 => ?_)
  · refine r_goto (tgt := 1769) rfl rfl ?_
    refine r_lv (lv' := [(0, .retAddr 100), (1, .ref 0), (2, .ref 53), (3, .ref 76), (4, .int (nI i))]) [2, 3, 4, 5, 6] rfl ?_
    exact K _ _ _ _ hA' hI2 hM2 (by omega) (by omega)
  · have h0 : c = 0 := by omega
    rw [hv2 h0]
    have hout : σ2.2 76 0 = _ := (show σ2.2 76 0 = σ1.2 76 0 from by rw [(hF2 76 (Or.inr rfl)).2]).trans (hv1 h0)
    refine r_aload_n rfl rfl ?_
    refine n_iconst 0 rfl ?_
    refine s_lald (x := v.toInt64) rfl rfl (by decide) (hout) ?_
    refine r_iload rfl rfl ?_
    refine r_i2l rfl rfl ?_
    refine l_lcmp_same (tgt := 588) rfl rfl rfl ?_
    refine r_goto (tgt := 1769) rfl rfl ?_
    refine r_lv (lv' := [(0, .retAddr 100), (1, .ref 0), (2, .ref 53), (3, .ref 76), (4, .int (nI i))]) [2, 3, 4, 5, 6] rfl ?_
    exact K _ _ _ _ hA' hI2 hM2 (by omega) (by omega)

set_option maxRecDepth 100000 in
theorem law_legacy {sc : SC} {σ : SS} {a : AB} {i k n : Nat} {Q : Out → SS → Prop} (hA : AV a) (hI : CI9 σ a) (hM : MI9 σ a) (hi : i + 6 ≤ sc.1) (hL : sc.1 ≤ 3072) (hk : k + 1 ≤ 1112) (hn : n + 6 ≤ 13189) (K : ∀ σ' a' k' n', AV a' → CI9 σ' a' → MI9 σ' a' → k' ≤ k + 1 → n' ≤ n + 6 → Ws (true, true) sc mL_law 1112 13189 k' n' 1769 [(0, .retAddr 100), (1, .ref 0), (2, .ref 53), (3, .ref 76), (4, .int (nI i))] [] σ' Q) : Ws (true, true) sc mL_law 1112 13189 k n 591 [(0, .retAddr 100), (1, .ref 0), (2, .ref 53), (3, .ref 76), (4, .int (nI i))] [] σ Q := by
  have hi2 : sc.1 < 2147483648 := by omega
  refine r_aload_n rfl rfl ?_
  refine r_aload_nK rfl rfl (by decide) ?_
  refine r_iload rfl rfl ?_
  refine n_iconst 1 rfl ?_
  refine n_iadd rfl ?_
  refine r_sld (j := i + 1) rfl (by decide) (by omega) (by omega) ?_
  refine r_aload_nK rfl rfl (by decide) ?_
  refine r_iload rfl rfl ?_
  refine n_iconst 2 rfl ?_
  refine n_iadd rfl ?_
  refine r_sld (j := i + 2) rfl (by decide) (by omega) (by omega) ?_
  refine r_aload_n rfl rfl ?_
  obtain ⟨c, a', v, hc, hA', hCc, hMm⟩ := op_legacy (sc := sc) hA (sc.2 (i + 1)) (sc.2 (i + 2))
  refine s_staWI [.ref 0, .int (sc.2 (i + 1)), .int (sc.2 (i + 2)), .ref 76] [] rfl lkL_125 (hCc σ hI) rfl rfl (by omega) (by omega) ?_
  rintro _ σ1 ⟨rfl, hv1, hF1, hI1⟩
  have hM1 := MI9_fr hF1 hM
  refine r_istore (lv' := [(5, .int (nI c)), (0, .retAddr 100), (1, .ref 0), (2, .ref 53), (3, .ref 76), (4, .int (nI i))]) rfl (Nat.le_of_ble_eq_true rfl) rfl ?_
  refine r_aload_n rfl rfl ?_
  refine r_aload_nK rfl rfl (by decide) ?_
  refine r_iload rfl rfl ?_
  refine n_iconst 1 rfl ?_
  refine n_iadd rfl ?_
  refine r_sld (j := i + 1) rfl (by decide) (by omega) (by omega) ?_
  refine r_aload_nK rfl rfl (by decide) ?_
  refine r_iload rfl rfl ?_
  refine n_iconst 2 rfl ?_
  refine n_iadd rfl ?_
  refine r_sld (j := i + 2) rfl (by decide) (by omega) (by omega) ?_
  refine s_virI [.int (sc.2 (i + 1)), .int (sc.2 (i + 2))] [] rfl lkL_127 rfl rfl rfl (hMm σ1 hM1) rfl rfl (by omega) (by omega) rfl ?_
  rintro v6 σ2 ⟨hv2, ht, hF2, hM2⟩
  have hI2 := CI9_fr hF2.D hI1
  refine r_istore (lv' := [(6, .int v6), (5, .int (nI c)), (0, .retAddr 100), (1, .ref 0), (2, .ref 53), (3, .ref 76), (4, .int (nI i))]) rfl (Nat.le_of_ble_eq_true rfl) rfl ?_
  refine r_aload_n rfl rfl ?_
  refine s_virI [] [] rfl lkL_100 rfl rfl rfl (k_thrown ht) rfl rfl (by omega) (by omega) rfl (rI (e1 := nI c) rfl ?_)
  refine r_iload rfl rfl ?_
  refine n_icmp_eq (tgt := 639) rfl rfl (by omega) (by omega) (fun _ => ?_) (fun hq => absurd hq (fun z => z rfl))
  refine r_iload rfl rfl ?_
  refine n_if_ne (tgt := 656) rfl rfl (by omega) (fun hc0 => ?_) (fun hc0 => ?_)
  · refine r_goto (tgt := 1769) rfl rfl ?_
    refine r_lv (lv' := [(0, .retAddr 100), (1, .ref 0), (2, .ref 53), (3, .ref 76), (4, .int (nI i))]) [2, 3, 4, 5, 6] rfl ?_
    exact K _ _ _ _ hA' hI2 hM2 (by omega) (by omega)
  · have h0 : c = 0 := by omega
    rw [hv2 h0]
    have hout : σ2.2 76 0 = _ := (show σ2.2 76 0 = σ1.2 76 0 from by rw [(hF2 76 (Or.inr rfl)).2]).trans (hv1 h0)
    refine r_aload_n rfl rfl ?_
    refine n_iconst 0 rfl ?_
    refine s_lald (x := v.toInt64) rfl rfl (by decide) (hout) ?_
    refine r_iload rfl rfl ?_
    refine r_i2l rfl rfl ?_
    refine l_lcmp_same (tgt := 656) rfl rfl rfl ?_
    refine r_goto (tgt := 1769) rfl rfl ?_
    refine r_lv (lv' := [(0, .retAddr 100), (1, .ref 0), (2, .ref 53), (3, .ref 76), (4, .int (nI i))]) [2, 3, 4, 5, 6] rfl ?_
    exact K _ _ _ _ hA' hI2 hM2 (by omega) (by omega)

set_option maxRecDepth 100000 in
theorem law_account {sc : SC} {σ : SS} {a : AB} {i k n : Nat} {Q : Out → SS → Prop} (hA : AV a) (hI : CI9 σ a) (hM : MI9 σ a) (hi : i + 6 ≤ sc.1) (hL : sc.1 ≤ 3072) (hk : k + 1 ≤ 1112) (hn : n + 6 ≤ 13189) (K : ∀ σ' a' k' n', AV a' → CI9 σ' a' → MI9 σ' a' → k' ≤ k + 1 → n' ≤ n + 6 → Ws (true, true) sc mL_law 1112 13189 k' n' 1769 [(0, .retAddr 100), (1, .ref 0), (2, .ref 53), (3, .ref 76), (4, .int (nI i))] [] σ' Q) : Ws (true, true) sc mL_law 1112 13189 k n 659 [(0, .retAddr 100), (1, .ref 0), (2, .ref 53), (3, .ref 76), (4, .int (nI i))] [] σ Q := by
  have hi2 : sc.1 < 2147483648 := by omega
  refine r_aload_n rfl rfl ?_
  refine r_aload_nK rfl rfl (by decide) ?_
  refine r_iload rfl rfl ?_
  refine n_iconst 1 rfl ?_
  refine n_iadd rfl ?_
  refine r_sld (j := i + 1) rfl (by decide) (by omega) (by omega) ?_
  refine r_aload_n rfl rfl ?_
  obtain ⟨c, a', v, hc, hA', hCc, hMm⟩ := op_account (sc := sc) hA (sc.2 (i + 1))
  refine s_staWI [.ref 0, .int (sc.2 (i + 1)), .ref 76] [] rfl lkL_128 (hCc σ hI) rfl rfl (by omega) (by omega) ?_
  rintro _ σ1 ⟨rfl, hv1, hF1, hI1⟩
  have hM1 := MI9_fr hF1 hM
  refine r_istore (lv' := [(5, .int (nI c)), (0, .retAddr 100), (1, .ref 0), (2, .ref 53), (3, .ref 76), (4, .int (nI i))]) rfl (Nat.le_of_ble_eq_true rfl) rfl ?_
  refine r_aload_n rfl rfl ?_
  refine r_aload_nK rfl rfl (by decide) ?_
  refine r_iload rfl rfl ?_
  refine n_iconst 1 rfl ?_
  refine n_iadd rfl ?_
  refine r_sld (j := i + 1) rfl (by decide) (by omega) (by omega) ?_
  refine s_virI [.int (sc.2 (i + 1))] [] rfl lkL_130 rfl rfl rfl (hMm σ1 hM1) rfl rfl (by omega) (by omega) rfl ?_
  rintro v6 σ2 ⟨hv2, ht, hF2, hM2⟩
  have hI2 := CI9_fr hF2.D hI1
  refine r_istore (lv' := [(6, .int v6), (5, .int (nI c)), (0, .retAddr 100), (1, .ref 0), (2, .ref 53), (3, .ref 76), (4, .int (nI i))]) rfl (Nat.le_of_ble_eq_true rfl) rfl ?_
  refine r_aload_n rfl rfl ?_
  refine s_virI [] [] rfl lkL_100 rfl rfl rfl (k_thrown ht) rfl rfl (by omega) (by omega) rfl (rI (e1 := nI c) rfl ?_)
  refine r_iload rfl rfl ?_
  refine n_icmp_eq (tgt := 695) rfl rfl (by omega) (by omega) (fun _ => ?_) (fun hq => absurd hq (fun z => z rfl))
  refine r_iload rfl rfl ?_
  refine n_if_ne (tgt := 712) rfl rfl (by omega) (fun hc0 => ?_) (fun hc0 => ?_)
  · refine r_goto (tgt := 1769) rfl rfl ?_
    refine r_lv (lv' := [(0, .retAddr 100), (1, .ref 0), (2, .ref 53), (3, .ref 76), (4, .int (nI i))]) [2, 3, 4, 5, 6] rfl ?_
    exact K _ _ _ _ hA' hI2 hM2 (by omega) (by omega)
  · have h0 : c = 0 := by omega
    rw [hv2 h0]
    have hout : σ2.2 76 0 = _ := (show σ2.2 76 0 = σ1.2 76 0 from by rw [(hF2 76 (Or.inr rfl)).2]).trans (hv1 h0)
    refine r_aload_n rfl rfl ?_
    refine n_iconst 0 rfl ?_
    refine s_lald (x := v.toInt64) rfl rfl (by decide) (hout) ?_
    refine r_iload rfl rfl ?_
    refine r_i2l rfl rfl ?_
    refine l_lcmp_same (tgt := 712) rfl rfl rfl ?_
    refine r_goto (tgt := 1769) rfl rfl ?_
    refine r_lv (lv' := [(0, .retAddr 100), (1, .ref 0), (2, .ref 53), (3, .ref 76), (4, .int (nI i))]) [2, 3, 4, 5, 6] rfl ?_
    exact K _ _ _ _ hA' hI2 hM2 (by omega) (by omega)

set_option maxRecDepth 100000 in
theorem law_factor {sc : SC} {σ : SS} {a : AB} {i k n : Nat} {Q : Out → SS → Prop} (hA : AV a) (hI : CI9 σ a) (hM : MI9 σ a) (hi : i + 6 ≤ sc.1) (hL : sc.1 ≤ 3072) (hk : k + 1 ≤ 1112) (hn : n + 6 ≤ 13189) (K : ∀ σ' a' k' n', AV a' → CI9 σ' a' → MI9 σ' a' → k' ≤ k + 1 → n' ≤ n + 6 → Ws (true, true) sc mL_law 1112 13189 k' n' 1769 [(0, .retAddr 100), (1, .ref 0), (2, .ref 53), (3, .ref 76), (4, .int (nI i))] [] σ' Q) : Ws (true, true) sc mL_law 1112 13189 k n 715 [(0, .retAddr 100), (1, .ref 0), (2, .ref 53), (3, .ref 76), (4, .int (nI i))] [] σ Q := by
  have hi2 : sc.1 < 2147483648 := by omega
  refine r_aload_n rfl rfl ?_
  refine r_aload_nK rfl rfl (by decide) ?_
  refine r_iload rfl rfl ?_
  refine n_iconst 1 rfl ?_
  refine n_iadd rfl ?_
  refine r_sld (j := i + 1) rfl (by decide) (by omega) (by omega) ?_
  refine r_aload_n rfl rfl ?_
  obtain ⟨c, a', v, hc, hA', hCc, hMm⟩ := op_factor (sc := sc) hA (sc.2 (i + 1))
  refine s_staWI [.ref 0, .int (sc.2 (i + 1)), .ref 76] [] rfl lkL_131 (hCc σ hI) rfl rfl (by omega) (by omega) ?_
  rintro _ σ1 ⟨rfl, hv1, hF1, hI1⟩
  have hM1 := MI9_fr hF1 hM
  refine r_istore (lv' := [(5, .int (nI c)), (0, .retAddr 100), (1, .ref 0), (2, .ref 53), (3, .ref 76), (4, .int (nI i))]) rfl (Nat.le_of_ble_eq_true rfl) rfl ?_
  refine r_aload_n rfl rfl ?_
  refine r_aload_nK rfl rfl (by decide) ?_
  refine r_iload rfl rfl ?_
  refine n_iconst 1 rfl ?_
  refine n_iadd rfl ?_
  refine r_sld (j := i + 1) rfl (by decide) (by omega) (by omega) ?_
  refine s_virI [.int (sc.2 (i + 1))] [] rfl lkL_133 rfl rfl rfl (hMm σ1 hM1) rfl rfl (by omega) (by omega) rfl ?_
  rintro v6 σ2 ⟨hv2, ht, hF2, hM2⟩
  have hI2 := CI9_fr hF2.D hI1
  refine r_istore (lv' := [(6, .int v6), (5, .int (nI c)), (0, .retAddr 100), (1, .ref 0), (2, .ref 53), (3, .ref 76), (4, .int (nI i))]) rfl (Nat.le_of_ble_eq_true rfl) rfl ?_
  refine r_aload_n rfl rfl ?_
  refine s_virI [] [] rfl lkL_100 rfl rfl rfl (k_thrown ht) rfl rfl (by omega) (by omega) rfl (rI (e1 := nI c) rfl ?_)
  refine r_iload rfl rfl ?_
  refine n_icmp_eq (tgt := 751) rfl rfl (by omega) (by omega) (fun _ => ?_) (fun hq => absurd hq (fun z => z rfl))
  refine r_iload rfl rfl ?_
  refine n_if_ne (tgt := 768) rfl rfl (by omega) (fun hc0 => ?_) (fun hc0 => ?_)
  · refine r_goto (tgt := 1769) rfl rfl ?_
    refine r_lv (lv' := [(0, .retAddr 100), (1, .ref 0), (2, .ref 53), (3, .ref 76), (4, .int (nI i))]) [2, 3, 4, 5, 6] rfl ?_
    exact K _ _ _ _ hA' hI2 hM2 (by omega) (by omega)
  · have h0 : c = 0 := by omega
    rw [hv2 h0]
    have hout : σ2.2 76 0 = _ := (show σ2.2 76 0 = σ1.2 76 0 from by rw [(hF2 76 (Or.inr rfl)).2]).trans (hv1 h0)
    refine r_aload_n rfl rfl ?_
    refine n_iconst 0 rfl ?_
    refine s_lald (x := v.toInt64) rfl rfl (by decide) (hout) ?_
    refine r_iload rfl rfl ?_
    refine r_i2l rfl rfl ?_
    refine l_lcmp_same (tgt := 768) rfl rfl rfl ?_
    refine r_goto (tgt := 1769) rfl rfl ?_
    refine r_lv (lv' := [(0, .retAddr 100), (1, .ref 0), (2, .ref 53), (3, .ref 76), (4, .int (nI i))]) [2, 3, 4, 5, 6] rfl ?_
    exact K _ _ _ _ hA' hI2 hM2 (by omega) (by omega)

set_option maxRecDepth 100000 in
theorem law_heirs {sc : SC} {σ : SS} {a : AB} {i k n : Nat} {Q : Out → SS → Prop} (hA : AV a) (hI : CI9 σ a) (hM : MI9 σ a) (hi : i + 6 ≤ sc.1) (hL : sc.1 ≤ 3072) (hk : k + 1 ≤ 1112) (hn : n + 6 ≤ 13189) (K : ∀ σ' a' k' n', AV a' → CI9 σ' a' → MI9 σ' a' → k' ≤ k + 1 → n' ≤ n + 6 → Ws (true, true) sc mL_law 1112 13189 k' n' 1769 [(0, .retAddr 100), (1, .ref 0), (2, .ref 53), (3, .ref 76), (4, .int (nI i))] [] σ' Q) : Ws (true, true) sc mL_law 1112 13189 k n 771 [(0, .retAddr 100), (1, .ref 0), (2, .ref 53), (3, .ref 76), (4, .int (nI i))] [] σ Q := by
  have hi2 : sc.1 < 2147483648 := by omega
  refine r_aload_n rfl rfl ?_
  obtain ⟨a', v, hA', hCc, hMm⟩ := op_heirs (sc := sc) hA 
  refine s_virI [] [] rfl lkL_134 rfl rfl rfl (hCc σ hI) rfl rfl (by omega) (by omega) rfl ?_
  rintro r1 σ1 ⟨hr1, hF1, hI1⟩
  rw [hr1]
  have hM1 := MI9_fr hF1 hM
  refine r_aload_n rfl rfl ?_
  refine s_virI [] [.int v] rfl lkL_137 rfl rfl rfl (hMm σ1 hM1) rfl rfl (by omega) (by omega) rfl ?_
  rintro v6 σ2 ⟨hv2, ht, hF2, hM2⟩
  have hI2 := CI9_fr hF2.D hI1
  rw [hv2 rfl]
  refine r_icmp_eq (tgt := 1769) rfl rfl (fun _ => ?_) (fun hq => absurd hq (fun z => z rfl))
  refine r_lv (lv' := [(0, .retAddr 100), (1, .ref 0), (2, .ref 53), (3, .ref 76), (4, .int (nI i))]) [0, 1, 2, 3, 4] rfl ?_
  exact K _ _ _ _ hA' hI2 hM2 (by omega) (by omega)

set_option maxRecDepth 100000 in
theorem law_leftOut {sc : SC} {σ : SS} {a : AB} {i k n : Nat} {Q : Out → SS → Prop} (hA : AV a) (hI : CI9 σ a) (hM : MI9 σ a) (hi : i + 6 ≤ sc.1) (hL : sc.1 ≤ 3072) (hk : k + 1 ≤ 1112) (hn : n + 6 ≤ 13189) (K : ∀ σ' a' k' n', AV a' → CI9 σ' a' → MI9 σ' a' → k' ≤ k + 1 → n' ≤ n + 6 → Ws (true, true) sc mL_law 1112 13189 k' n' 1769 [(0, .retAddr 100), (1, .ref 0), (2, .ref 53), (3, .ref 76), (4, .int (nI i))] [] σ' Q) : Ws (true, true) sc mL_law 1112 13189 k n 784 [(0, .retAddr 100), (1, .ref 0), (2, .ref 53), (3, .ref 76), (4, .int (nI i))] [] σ Q := by
  have hi2 : sc.1 < 2147483648 := by omega
  refine r_aload_n rfl rfl ?_
  obtain ⟨a', v, hA', hCc, hMm⟩ := op_leftOut (sc := sc) hA 
  refine s_virI [] [] rfl lkL_138 rfl rfl rfl (hCc σ hI) rfl rfl (by omega) (by omega) rfl ?_
  rintro r1 σ1 ⟨hr1, hF1, hI1⟩
  rw [hr1]
  have hM1 := MI9_fr hF1 hM
  refine r_aload_n rfl rfl ?_
  refine s_virI [] [.int v] rfl lkL_141 rfl rfl rfl (hMm σ1 hM1) rfl rfl (by omega) (by omega) rfl ?_
  rintro v6 σ2 ⟨hv2, ht, hF2, hM2⟩
  have hI2 := CI9_fr hF2.D hI1
  rw [hv2 rfl]
  refine r_icmp_eq (tgt := 1769) rfl rfl (fun _ => ?_) (fun hq => absurd hq (fun z => z rfl))
  refine r_lv (lv' := [(0, .retAddr 100), (1, .ref 0), (2, .ref 53), (3, .ref 76), (4, .int (nI i))]) [0, 1, 2, 3, 4] rfl ?_
  exact K _ _ _ _ hA' hI2 hM2 (by omega) (by omega)

set_option maxRecDepth 100000 in
theorem law_isEmpty {sc : SC} {σ : SS} {a : AB} {i k n : Nat} {Q : Out → SS → Prop} (hA : AV a) (hI : CI9 σ a) (hM : MI9 σ a) (hi : i + 6 ≤ sc.1) (hL : sc.1 ≤ 3072) (hk : k + 1 ≤ 1112) (hn : n + 6 ≤ 13189) (K : ∀ σ' a' k' n', AV a' → CI9 σ' a' → MI9 σ' a' → k' ≤ k + 1 → n' ≤ n + 6 → Ws (true, true) sc mL_law 1112 13189 k' n' 1769 [(0, .retAddr 100), (1, .ref 0), (2, .ref 53), (3, .ref 76), (4, .int (nI i))] [] σ' Q) : Ws (true, true) sc mL_law 1112 13189 k n 797 [(0, .retAddr 100), (1, .ref 0), (2, .ref 53), (3, .ref 76), (4, .int (nI i))] [] σ Q := by
  have hi2 : sc.1 < 2147483648 := by omega
  refine r_aload_n rfl rfl ?_
  refine r_aload_nK rfl rfl (by decide) ?_
  refine r_iload rfl rfl ?_
  refine n_iconst 1 rfl ?_
  refine n_iadd rfl ?_
  refine r_sld (j := i + 1) rfl (by decide) (by omega) (by omega) ?_
  refine r_aload_n rfl rfl ?_
  obtain ⟨c, a', v, hc, hA', hCc, hMm⟩ := op_isEmpty (sc := sc) hA (sc.2 (i + 1))
  refine s_staWI [.ref 0, .int (sc.2 (i + 1)), .ref 76] [] rfl lkL_142 (hCc σ hI) rfl rfl (by omega) (by omega) ?_
  rintro _ σ1 ⟨rfl, hv1, hF1, hI1⟩
  have hM1 := MI9_fr hF1 hM
  refine r_istore (lv' := [(5, .int (nI c)), (0, .retAddr 100), (1, .ref 0), (2, .ref 53), (3, .ref 76), (4, .int (nI i))]) rfl (Nat.le_of_ble_eq_true rfl) rfl ?_
  refine r_aload_n rfl rfl ?_
  refine r_aload_nK rfl rfl (by decide) ?_
  refine r_iload rfl rfl ?_
  refine n_iconst 1 rfl ?_
  refine n_iadd rfl ?_
  refine r_sld (j := i + 1) rfl (by decide) (by omega) (by omega) ?_
  refine s_virI [.int (sc.2 (i + 1))] [] rfl lkL_144 rfl rfl rfl (hMm σ1 hM1) rfl rfl (by omega) (by omega) rfl ?_
  rintro v6 σ2 ⟨hv2, ht, hF2, hM2⟩
  have hI2 := CI9_fr hF2.D hI1
  refine r_istore (lv' := [(6, .int v6), (5, .int (nI c)), (0, .retAddr 100), (1, .ref 0), (2, .ref 53), (3, .ref 76), (4, .int (nI i))]) rfl (Nat.le_of_ble_eq_true rfl) rfl ?_
  refine r_aload_n rfl rfl ?_
  refine s_virI [] [] rfl lkL_100 rfl rfl rfl (k_thrown ht) rfl rfl (by omega) (by omega) rfl (rI (e1 := nI c) rfl ?_)
  refine r_iload rfl rfl ?_
  refine n_icmp_eq (tgt := 833) rfl rfl (by omega) (by omega) (fun _ => ?_) (fun hq => absurd hq (fun z => z rfl))
  refine r_iload rfl rfl ?_
  refine n_if_ne (tgt := 857) rfl rfl (by omega) (fun hc0 => ?_) (fun hc0 => ?_)
  · refine r_goto (tgt := 1769) rfl rfl ?_
    refine r_lv (lv' := [(0, .retAddr 100), (1, .ref 0), (2, .ref 53), (3, .ref 76), (4, .int (nI i))]) [2, 3, 4, 5, 6] rfl ?_
    exact K _ _ _ _ hA' hI2 hM2 (by omega) (by omega)
  · have h0 : c = 0 := by omega
    rw [hv2 h0]
    have hout : σ2.2 76 0 = _ := (show σ2.2 76 0 = σ1.2 76 0 from by rw [(hF2 76 (Or.inr rfl)).2]).trans (hv1 h0)
    by_cases h7 : v = 0
    · refine r_aload_n rfl rfl ?_
      refine n_iconst 0 rfl ?_
      refine s_lald (x := lN 0) rfl rfl (by decide) (hout.trans (if_pos h7)) ?_
      refine r_iload rfl rfl ?_
      refine r_if_eq (tgt := 850) rfl rfl (fun _ => ?_) (fun hq => absurd hq (fun z => z h7))
      refine n_lconst0 rfl ?_
      refine n_lcmp_eq (tgt := 857) rfl rfl rfl (by decide) (by decide) (fun _ => ?_) (fun hq => absurd hq (fun z => z rfl))
      refine r_goto (tgt := 1769) rfl rfl ?_
      refine r_lv (lv' := [(0, .retAddr 100), (1, .ref 0), (2, .ref 53), (3, .ref 76), (4, .int (nI i))]) [2, 3, 4, 5, 6] rfl ?_
      exact K _ _ _ _ hA' hI2 hM2 (by omega) (by omega)
    · refine r_aload_n rfl rfl ?_
      refine n_iconst 0 rfl ?_
      refine s_lald (x := lN 1) rfl rfl (by decide) (hout.trans (if_neg h7)) ?_
      refine r_iload rfl rfl ?_
      refine r_if_eq (tgt := 850) rfl rfl (fun hq => absurd hq h7) (fun _ => ?_)
      refine n_lconst1 rfl ?_
      refine r_goto (tgt := 851) rfl rfl ?_
      refine n_lcmp_eq (tgt := 857) rfl rfl rfl (by decide) (by decide) (fun _ => ?_) (fun hq => absurd hq (fun z => z rfl))
      refine r_goto (tgt := 1769) rfl rfl ?_
      refine r_lv (lv' := [(0, .retAddr 100), (1, .ref 0), (2, .ref 53), (3, .ref 76), (4, .int (nI i))]) [2, 3, 4, 5, 6] rfl ?_
      exact K _ _ _ _ hA' hI2 hM2 (by omega) (by omega)

set_option maxRecDepth 100000 in
theorem law_step {sc : SC} {σ : SS} {a : AB} {i k n : Nat} {Q : Out → SS → Prop} (hA : AV a) (hI : CI9 σ a) (hM : MI9 σ a) (hi : i + 6 ≤ sc.1) (hL : sc.1 ≤ 3072) (hk : k + 1 ≤ 1112) (hn : n + 6 ≤ 13189) (K : ∀ σ' a' k' n', AV a' → CI9 σ' a' → MI9 σ' a' → k' ≤ k + 1 → n' ≤ n + 6 → Ws (true, true) sc mL_law 1112 13189 k' n' 1769 [(0, .retAddr 100), (1, .ref 0), (2, .ref 53), (3, .ref 76), (4, .int (nI i))] [] σ' Q) : Ws (true, true) sc mL_law 1112 13189 k n 860 [(0, .retAddr 100), (1, .ref 0), (2, .ref 53), (3, .ref 76), (4, .int (nI i))] [] σ Q := by
  have hi2 : sc.1 < 2147483648 := by omega
  refine r_aload_n rfl rfl ?_
  refine r_aload_nK rfl rfl (by decide) ?_
  refine r_iload rfl rfl ?_
  refine n_iconst 1 rfl ?_
  refine n_iadd rfl ?_
  refine r_sld (j := i + 1) rfl (by decide) (by omega) (by omega) ?_
  refine r_aload_nK rfl rfl (by decide) ?_
  refine r_iload rfl rfl ?_
  refine n_iconst 2 rfl ?_
  refine n_iadd rfl ?_
  refine r_sld (j := i + 2) rfl (by decide) (by omega) (by omega) ?_
  refine r_aload_n rfl rfl ?_
  obtain ⟨c, a', v, hc, hA', hCc, hMm⟩ := op_step (sc := sc) hA (sc.2 (i + 1)) (sc.2 (i + 2))
  refine s_staWI [.ref 0, .int (sc.2 (i + 1)), .int (sc.2 (i + 2)), .ref 76] [] rfl lkL_145 (hCc σ hI) rfl rfl (by omega) (by omega) ?_
  rintro _ σ1 ⟨rfl, hv1, hF1, hI1⟩
  have hM1 := MI9_fr hF1 hM
  refine r_istore (lv' := [(5, .int (nI c)), (0, .retAddr 100), (1, .ref 0), (2, .ref 53), (3, .ref 76), (4, .int (nI i))]) rfl (Nat.le_of_ble_eq_true rfl) rfl ?_
  refine r_aload_n rfl rfl ?_
  refine r_aload_nK rfl rfl (by decide) ?_
  refine r_iload rfl rfl ?_
  refine n_iconst 1 rfl ?_
  refine n_iadd rfl ?_
  refine r_sld (j := i + 1) rfl (by decide) (by omega) (by omega) ?_
  refine r_aload_nK rfl rfl (by decide) ?_
  refine r_iload rfl rfl ?_
  refine n_iconst 2 rfl ?_
  refine n_iadd rfl ?_
  refine r_sld (j := i + 2) rfl (by decide) (by omega) (by omega) ?_
  refine s_virI [.int (sc.2 (i + 1)), .int (sc.2 (i + 2))] [] rfl lkL_147 rfl rfl rfl (hMm σ1 hM1) rfl rfl (by omega) (by omega) rfl ?_
  rintro v6 σ2 ⟨hv2, ht, hF2, hM2⟩
  have hI2 := CI9_fr hF2.D hI1
  refine r_istore (lv' := [(6, .int v6), (5, .int (nI c)), (0, .retAddr 100), (1, .ref 0), (2, .ref 53), (3, .ref 76), (4, .int (nI i))]) rfl (Nat.le_of_ble_eq_true rfl) rfl ?_
  refine r_aload_n rfl rfl ?_
  refine s_virI [] [] rfl lkL_100 rfl rfl rfl (k_thrown ht) rfl rfl (by omega) (by omega) rfl (rI (e1 := nI c) rfl ?_)
  refine r_iload rfl rfl ?_
  refine n_icmp_eq (tgt := 908) rfl rfl (by omega) (by omega) (fun _ => ?_) (fun hq => absurd hq (fun z => z rfl))
  refine r_iload rfl rfl ?_
  refine n_if_ne (tgt := 925) rfl rfl (by omega) (fun hc0 => ?_) (fun hc0 => ?_)
  · refine r_goto (tgt := 1769) rfl rfl ?_
    refine r_lv (lv' := [(0, .retAddr 100), (1, .ref 0), (2, .ref 53), (3, .ref 76), (4, .int (nI i))]) [2, 3, 4, 5, 6] rfl ?_
    exact K _ _ _ _ hA' hI2 hM2 (by omega) (by omega)
  · have h0 : c = 0 := by omega
    rw [hv2 h0]
    have hout : σ2.2 76 0 = _ := (show σ2.2 76 0 = σ1.2 76 0 from by rw [(hF2 76 (Or.inr rfl)).2]).trans (hv1 h0)
    refine r_aload_n rfl rfl ?_
    refine n_iconst 0 rfl ?_
    refine s_lald (x := v.toInt64) rfl rfl (by decide) (hout) ?_
    refine r_iload rfl rfl ?_
    refine r_i2l rfl rfl ?_
    refine l_lcmp_same (tgt := 925) rfl rfl rfl ?_
    refine r_goto (tgt := 1769) rfl rfl ?_
    refine r_lv (lv' := [(0, .retAddr 100), (1, .ref 0), (2, .ref 53), (3, .ref 76), (4, .int (nI i))]) [2, 3, 4, 5, 6] rfl ?_
    exact K _ _ _ _ hA' hI2 hM2 (by omega) (by omega)

set_option maxRecDepth 100000 in
theorem law_given {sc : SC} {σ : SS} {a : AB} {i k n : Nat} {Q : Out → SS → Prop} (hA : AV a) (hI : CI9 σ a) (hM : MI9 σ a) (hi : i + 6 ≤ sc.1) (hL : sc.1 ≤ 3072) (hk : k + 1 ≤ 1112) (hn : n + 6 ≤ 13189) (K : ∀ σ' a' k' n', AV a' → CI9 σ' a' → MI9 σ' a' → k' ≤ k + 1 → n' ≤ n + 6 → Ws (true, true) sc mL_law 1112 13189 k' n' 1769 [(0, .retAddr 100), (1, .ref 0), (2, .ref 53), (3, .ref 76), (4, .int (nI i))] [] σ' Q) : Ws (true, true) sc mL_law 1112 13189 k n 928 [(0, .retAddr 100), (1, .ref 0), (2, .ref 53), (3, .ref 76), (4, .int (nI i))] [] σ Q := by
  have hi2 : sc.1 < 2147483648 := by omega
  refine r_aload_n rfl rfl ?_
  refine r_aload_nK rfl rfl (by decide) ?_
  refine r_iload rfl rfl ?_
  refine n_iconst 1 rfl ?_
  refine n_iadd rfl ?_
  refine r_sld (j := i + 1) rfl (by decide) (by omega) (by omega) ?_
  refine r_aload_n rfl rfl ?_
  obtain ⟨c, a', v, hc, hA', hCc, hMm⟩ := op_given (sc := sc) hA (sc.2 (i + 1))
  refine s_staWI [.ref 0, .int (sc.2 (i + 1)), .ref 76] [] rfl lkL_148 (hCc σ hI) rfl rfl (by omega) (by omega) ?_
  rintro _ σ1 ⟨rfl, hv1, hF1, hI1⟩
  have hM1 := MI9_fr hF1 hM
  refine r_istore (lv' := [(5, .int (nI c)), (0, .retAddr 100), (1, .ref 0), (2, .ref 53), (3, .ref 76), (4, .int (nI i))]) rfl (Nat.le_of_ble_eq_true rfl) rfl ?_
  refine r_aload_n rfl rfl ?_
  refine r_aload_nK rfl rfl (by decide) ?_
  refine r_iload rfl rfl ?_
  refine n_iconst 1 rfl ?_
  refine n_iadd rfl ?_
  refine r_sld (j := i + 1) rfl (by decide) (by omega) (by omega) ?_
  refine s_virI [.int (sc.2 (i + 1))] [] rfl lkL_150 rfl rfl rfl (hMm σ1 hM1) rfl rfl (by omega) (by omega) rfl ?_
  rintro v6 σ2 ⟨hv2, ht, hF2, hM2⟩
  have hI2 := CI9_fr hF2.D hI1
  refine r_istore (lv' := [(6, .int v6), (5, .int (nI c)), (0, .retAddr 100), (1, .ref 0), (2, .ref 53), (3, .ref 76), (4, .int (nI i))]) rfl (Nat.le_of_ble_eq_true rfl) rfl ?_
  refine r_aload_n rfl rfl ?_
  refine s_virI [] [] rfl lkL_100 rfl rfl rfl (k_thrown ht) rfl rfl (by omega) (by omega) rfl (rI (e1 := nI c) rfl ?_)
  refine r_iload rfl rfl ?_
  refine n_icmp_eq (tgt := 964) rfl rfl (by omega) (by omega) (fun _ => ?_) (fun hq => absurd hq (fun z => z rfl))
  refine r_iload rfl rfl ?_
  refine n_if_ne (tgt := 981) rfl rfl (by omega) (fun hc0 => ?_) (fun hc0 => ?_)
  · refine r_goto (tgt := 1769) rfl rfl ?_
    refine r_lv (lv' := [(0, .retAddr 100), (1, .ref 0), (2, .ref 53), (3, .ref 76), (4, .int (nI i))]) [2, 3, 4, 5, 6] rfl ?_
    exact K _ _ _ _ hA' hI2 hM2 (by omega) (by omega)
  · have h0 : c = 0 := by omega
    rw [hv2 h0]
    have hout : σ2.2 76 0 = _ := (show σ2.2 76 0 = σ1.2 76 0 from by rw [(hF2 76 (Or.inr rfl)).2]).trans (hv1 h0)
    refine r_aload_n rfl rfl ?_
    refine n_iconst 0 rfl ?_
    refine s_lald (x := v.toInt64) rfl rfl (by decide) (hout) ?_
    refine r_iload rfl rfl ?_
    refine r_i2l rfl rfl ?_
    refine l_lcmp_same (tgt := 981) rfl rfl rfl ?_
    refine r_goto (tgt := 1769) rfl rfl ?_
    refine r_lv (lv' := [(0, .retAddr 100), (1, .ref 0), (2, .ref 53), (3, .ref 76), (4, .int (nI i))]) [2, 3, 4, 5, 6] rfl ?_
    exact K _ _ _ _ hA' hI2 hM2 (by omega) (by omega)

set_option maxRecDepth 100000 in
theorem law_isBalanced {sc : SC} {σ : SS} {a : AB} {i k n : Nat} {Q : Out → SS → Prop} (hA : AV a) (hI : CI9 σ a) (hM : MI9 σ a) (hi : i + 6 ≤ sc.1) (hL : sc.1 ≤ 3072) (hk : k + 1 ≤ 1112) (hn : n + 6 ≤ 13189) (K : ∀ σ' a' k' n', AV a' → CI9 σ' a' → MI9 σ' a' → k' ≤ k + 1 → n' ≤ n + 6 → Ws (true, true) sc mL_law 1112 13189 k' n' 1769 [(0, .retAddr 100), (1, .ref 0), (2, .ref 53), (3, .ref 76), (4, .int (nI i))] [] σ' Q) : Ws (true, true) sc mL_law 1112 13189 k n 984 [(0, .retAddr 100), (1, .ref 0), (2, .ref 53), (3, .ref 76), (4, .int (nI i))] [] σ Q := by
  have hi2 : sc.1 < 2147483648 := by omega
  refine r_aload_n rfl rfl ?_
  obtain ⟨a', v, hA', hCc, hMm⟩ := op_isBalanced (sc := sc) hA 
  refine s_virI [] [] rfl lkL_151 rfl rfl rfl (hCc σ hI) rfl rfl (by omega) (by omega) rfl ?_
  rintro r1 σ1 ⟨hr1, hF1, hI1⟩
  rw [hr1]
  have hM1 := MI9_fr hF1 hM
  refine r_aload_n rfl rfl ?_
  refine s_virI [] [.int v] rfl lkL_155 rfl rfl rfl (hMm σ1 hM1) rfl rfl (by omega) (by omega) rfl ?_
  rintro v6 σ2 ⟨hv2, ht, hF2, hM2⟩
  have hI2 := CI9_fr hF2.D hI1
  rw [hv2 rfl]
  refine r_icmp_eq (tgt := 1769) rfl rfl (fun _ => ?_) (fun hq => absurd hq (fun z => z rfl))
  refine r_lv (lv' := [(0, .retAddr 100), (1, .ref 0), (2, .ref 53), (3, .ref 76), (4, .int (nI i))]) [0, 1, 2, 3, 4] rfl ?_
  exact K _ _ _ _ hA' hI2 hM2 (by omega) (by omega)

set_option maxRecDepth 100000 in
theorem law_givenIf {sc : SC} {σ : SS} {a : AB} {i k n : Nat} {Q : Out → SS → Prop} (hA : AV a) (hI : CI9 σ a) (hM : MI9 σ a) (hi : i + 6 ≤ sc.1) (hL : sc.1 ≤ 3072) (hk : k + 1 ≤ 1112) (hn : n + 6 ≤ 13189) (K : ∀ σ' a' k' n', AV a' → CI9 σ' a' → MI9 σ' a' → k' ≤ k + 1 → n' ≤ n + 6 → Ws (true, true) sc mL_law 1112 13189 k' n' 1769 [(0, .retAddr 100), (1, .ref 0), (2, .ref 53), (3, .ref 76), (4, .int (nI i))] [] σ' Q) : Ws (true, true) sc mL_law 1112 13189 k n 997 [(0, .retAddr 100), (1, .ref 0), (2, .ref 53), (3, .ref 76), (4, .int (nI i))] [] σ Q := by
  have hi2 : sc.1 < 2147483648 := by omega
  refine r_aload_n rfl rfl ?_
  refine r_aload_nK rfl rfl (by decide) ?_
  refine r_iload rfl rfl ?_
  refine n_iconst 1 rfl ?_
  refine n_iadd rfl ?_
  refine r_sld (j := i + 1) rfl (by decide) (by omega) (by omega) ?_
  refine r_aload_nK rfl rfl (by decide) ?_
  refine r_iload rfl rfl ?_
  refine n_iconst 2 rfl ?_
  refine n_iadd rfl ?_
  refine r_sld (j := i + 2) rfl (by decide) (by omega) (by omega) ?_
  refine r_aload_n rfl rfl ?_
  obtain ⟨c, a', v, hc, hA', hCc, hMm⟩ := op_givenIf (sc := sc) hA (sc.2 (i + 1)) (sc.2 (i + 2))
  refine s_staWI [.ref 0, .int (sc.2 (i + 1)), .int (sc.2 (i + 2)), .ref 76] [] rfl lkL_156 (hCc σ hI) rfl rfl (by omega) (by omega) ?_
  rintro _ σ1 ⟨rfl, hv1, hF1, hI1⟩
  have hM1 := MI9_fr hF1 hM
  refine r_istore (lv' := [(5, .int (nI c)), (0, .retAddr 100), (1, .ref 0), (2, .ref 53), (3, .ref 76), (4, .int (nI i))]) rfl (Nat.le_of_ble_eq_true rfl) rfl ?_
  refine r_aload_n rfl rfl ?_
  refine r_aload_nK rfl rfl (by decide) ?_
  refine r_iload rfl rfl ?_
  refine n_iconst 1 rfl ?_
  refine n_iadd rfl ?_
  refine r_sld (j := i + 1) rfl (by decide) (by omega) (by omega) ?_
  refine r_aload_nK rfl rfl (by decide) ?_
  refine r_iload rfl rfl ?_
  refine n_iconst 2 rfl ?_
  refine n_iadd rfl ?_
  refine r_sld (j := i + 2) rfl (by decide) (by omega) (by omega) ?_
  refine s_virI [.int (sc.2 (i + 1)), .int (sc.2 (i + 2))] [] rfl lkL_158 rfl rfl rfl (hMm σ1 hM1) rfl rfl (by omega) (by omega) rfl ?_
  rintro v6 σ2 ⟨hv2, ht, hF2, hM2⟩
  have hI2 := CI9_fr hF2.D hI1
  refine r_istore (lv' := [(6, .int v6), (5, .int (nI c)), (0, .retAddr 100), (1, .ref 0), (2, .ref 53), (3, .ref 76), (4, .int (nI i))]) rfl (Nat.le_of_ble_eq_true rfl) rfl ?_
  refine r_aload_n rfl rfl ?_
  refine s_virI [] [] rfl lkL_100 rfl rfl rfl (k_thrown ht) rfl rfl (by omega) (by omega) rfl (rI (e1 := nI c) rfl ?_)
  refine r_iload rfl rfl ?_
  refine n_icmp_eq (tgt := 1045) rfl rfl (by omega) (by omega) (fun _ => ?_) (fun hq => absurd hq (fun z => z rfl))
  refine r_iload rfl rfl ?_
  refine n_if_ne (tgt := 1062) rfl rfl (by omega) (fun hc0 => ?_) (fun hc0 => ?_)
  · refine r_goto (tgt := 1769) rfl rfl ?_
    refine r_lv (lv' := [(0, .retAddr 100), (1, .ref 0), (2, .ref 53), (3, .ref 76), (4, .int (nI i))]) [2, 3, 4, 5, 6] rfl ?_
    exact K _ _ _ _ hA' hI2 hM2 (by omega) (by omega)
  · have h0 : c = 0 := by omega
    rw [hv2 h0]
    have hout : σ2.2 76 0 = _ := (show σ2.2 76 0 = σ1.2 76 0 from by rw [(hF2 76 (Or.inr rfl)).2]).trans (hv1 h0)
    refine r_aload_n rfl rfl ?_
    refine n_iconst 0 rfl ?_
    refine s_lald (x := v.toInt64) rfl rfl (by decide) (hout) ?_
    refine r_iload rfl rfl ?_
    refine r_i2l rfl rfl ?_
    refine l_lcmp_same (tgt := 1062) rfl rfl rfl ?_
    refine r_goto (tgt := 1769) rfl rfl ?_
    refine r_lv (lv' := [(0, .retAddr 100), (1, .ref 0), (2, .ref 53), (3, .ref 76), (4, .int (nI i))]) [2, 3, 4, 5, 6] rfl ?_
    exact K _ _ _ _ hA' hI2 hM2 (by omega) (by omega)

set_option maxRecDepth 100000 in
theorem law_helper {sc : SC} {σ : SS} {a : AB} {i k n : Nat} {Q : Out → SS → Prop} (hA : AV a) (hI : CI9 σ a) (hM : MI9 σ a) (hi : i + 6 ≤ sc.1) (hL : sc.1 ≤ 3072) (hk : k + 1 ≤ 1112) (hn : n + 6 ≤ 13189) (K : ∀ σ' a' k' n', AV a' → CI9 σ' a' → MI9 σ' a' → k' ≤ k + 1 → n' ≤ n + 6 → Ws (true, true) sc mL_law 1112 13189 k' n' 1769 [(0, .retAddr 100), (1, .ref 0), (2, .ref 53), (3, .ref 76), (4, .int (nI i))] [] σ' Q) : Ws (true, true) sc mL_law 1112 13189 k n 1065 [(0, .retAddr 100), (1, .ref 0), (2, .ref 53), (3, .ref 76), (4, .int (nI i))] [] σ Q := by
  have hi2 : sc.1 < 2147483648 := by omega
  refine r_aload_n rfl rfl ?_
  refine r_aload_nK rfl rfl (by decide) ?_
  refine r_iload rfl rfl ?_
  refine n_iconst 1 rfl ?_
  refine n_iadd rfl ?_
  refine r_sld (j := i + 1) rfl (by decide) (by omega) (by omega) ?_
  refine r_aload_n rfl rfl ?_
  obtain ⟨c, a', v, hc, hA', hCc, hMm⟩ := op_helper (sc := sc) hA (sc.2 (i + 1))
  refine s_staWI [.ref 0, .int (sc.2 (i + 1)), .ref 76] [] rfl lkL_159 (hCc σ hI) rfl rfl (by omega) (by omega) ?_
  rintro _ σ1 ⟨rfl, hv1, hF1, hI1⟩
  have hM1 := MI9_fr hF1 hM
  refine r_istore (lv' := [(5, .int (nI c)), (0, .retAddr 100), (1, .ref 0), (2, .ref 53), (3, .ref 76), (4, .int (nI i))]) rfl (Nat.le_of_ble_eq_true rfl) rfl ?_
  refine r_aload_n rfl rfl ?_
  refine r_aload_nK rfl rfl (by decide) ?_
  refine r_iload rfl rfl ?_
  refine n_iconst 1 rfl ?_
  refine n_iadd rfl ?_
  refine r_sld (j := i + 1) rfl (by decide) (by omega) (by omega) ?_
  refine s_virI [.int (sc.2 (i + 1))] [] rfl lkL_161 rfl rfl rfl (hMm σ1 hM1) rfl rfl (by omega) (by omega) rfl ?_
  rintro v6 σ2 ⟨hv2, ht, hF2, hM2⟩
  have hI2 := CI9_fr hF2.D hI1
  refine r_istore (lv' := [(6, .int v6), (5, .int (nI c)), (0, .retAddr 100), (1, .ref 0), (2, .ref 53), (3, .ref 76), (4, .int (nI i))]) rfl (Nat.le_of_ble_eq_true rfl) rfl ?_
  refine r_aload_n rfl rfl ?_
  refine s_virI [] [] rfl lkL_100 rfl rfl rfl (k_thrown ht) rfl rfl (by omega) (by omega) rfl (rI (e1 := nI c) rfl ?_)
  refine r_iload rfl rfl ?_
  refine n_icmp_eq (tgt := 1101) rfl rfl (by omega) (by omega) (fun _ => ?_) (fun hq => absurd hq (fun z => z rfl))
  refine r_iload rfl rfl ?_
  refine n_if_ne (tgt := 1118) rfl rfl (by omega) (fun hc0 => ?_) (fun hc0 => ?_)
  · refine r_goto (tgt := 1769) rfl rfl ?_
    refine r_lv (lv' := [(0, .retAddr 100), (1, .ref 0), (2, .ref 53), (3, .ref 76), (4, .int (nI i))]) [2, 3, 4, 5, 6] rfl ?_
    exact K _ _ _ _ hA' hI2 hM2 (by omega) (by omega)
  · have h0 : c = 0 := by omega
    rw [hv2 h0]
    have hout : σ2.2 76 0 = _ := (show σ2.2 76 0 = σ1.2 76 0 from by rw [(hF2 76 (Or.inr rfl)).2]).trans (hv1 h0)
    refine r_aload_n rfl rfl ?_
    refine n_iconst 0 rfl ?_
    refine s_lald (x := v.toInt64) rfl rfl (by decide) (hout) ?_
    refine r_iload rfl rfl ?_
    refine r_i2l rfl rfl ?_
    refine l_lcmp_same (tgt := 1118) rfl rfl rfl ?_
    refine r_goto (tgt := 1769) rfl rfl ?_
    refine r_lv (lv' := [(0, .retAddr 100), (1, .ref 0), (2, .ref 53), (3, .ref 76), (4, .int (nI i))]) [2, 3, 4, 5, 6] rfl ?_
    exact K _ _ _ _ hA' hI2 hM2 (by omega) (by omega)

set_option maxRecDepth 100000 in
theorem law_tooMuch {sc : SC} {σ : SS} {a : AB} {i k n : Nat} {Q : Out → SS → Prop} (hA : AV a) (hI : CI9 σ a) (hM : MI9 σ a) (hi : i + 6 ≤ sc.1) (hL : sc.1 ≤ 3072) (hk : k + 1 ≤ 1112) (hn : n + 6 ≤ 13189) (K : ∀ σ' a' k' n', AV a' → CI9 σ' a' → MI9 σ' a' → k' ≤ k + 1 → n' ≤ n + 6 → Ws (true, true) sc mL_law 1112 13189 k' n' 1769 [(0, .retAddr 100), (1, .ref 0), (2, .ref 53), (3, .ref 76), (4, .int (nI i))] [] σ' Q) : Ws (true, true) sc mL_law 1112 13189 k n 1121 [(0, .retAddr 100), (1, .ref 0), (2, .ref 53), (3, .ref 76), (4, .int (nI i))] [] σ Q := by
  have hi2 : sc.1 < 2147483648 := by omega
  refine r_aload_n rfl rfl ?_
  refine r_aload_nK rfl rfl (by decide) ?_
  refine r_iload rfl rfl ?_
  refine n_iconst 1 rfl ?_
  refine n_iadd rfl ?_
  refine r_sld (j := i + 1) rfl (by decide) (by omega) (by omega) ?_
  refine r_aload_n rfl rfl ?_
  obtain ⟨c, a', v, hc, hA', hCc, hMm⟩ := op_tooMuch (sc := sc) hA (sc.2 (i + 1))
  refine s_staWI [.ref 0, .int (sc.2 (i + 1)), .ref 76] [] rfl lkL_162 (hCc σ hI) rfl rfl (by omega) (by omega) ?_
  rintro _ σ1 ⟨rfl, hv1, hF1, hI1⟩
  have hM1 := MI9_fr hF1 hM
  refine r_istore (lv' := [(5, .int (nI c)), (0, .retAddr 100), (1, .ref 0), (2, .ref 53), (3, .ref 76), (4, .int (nI i))]) rfl (Nat.le_of_ble_eq_true rfl) rfl ?_
  refine r_aload_n rfl rfl ?_
  refine r_aload_nK rfl rfl (by decide) ?_
  refine r_iload rfl rfl ?_
  refine n_iconst 1 rfl ?_
  refine n_iadd rfl ?_
  refine r_sld (j := i + 1) rfl (by decide) (by omega) (by omega) ?_
  refine s_virI [.int (sc.2 (i + 1))] [] rfl lkL_164 rfl rfl rfl (hMm σ1 hM1) rfl rfl (by omega) (by omega) rfl ?_
  rintro v6 σ2 ⟨hv2, ht, hF2, hM2⟩
  have hI2 := CI9_fr hF2.D hI1
  refine r_istore (lv' := [(6, .int v6), (5, .int (nI c)), (0, .retAddr 100), (1, .ref 0), (2, .ref 53), (3, .ref 76), (4, .int (nI i))]) rfl (Nat.le_of_ble_eq_true rfl) rfl ?_
  refine r_aload_n rfl rfl ?_
  refine s_virI [] [] rfl lkL_100 rfl rfl rfl (k_thrown ht) rfl rfl (by omega) (by omega) rfl (rI (e1 := nI c) rfl ?_)
  refine r_iload rfl rfl ?_
  refine n_icmp_eq (tgt := 1157) rfl rfl (by omega) (by omega) (fun _ => ?_) (fun hq => absurd hq (fun z => z rfl))
  refine r_iload rfl rfl ?_
  refine n_if_ne (tgt := 1174) rfl rfl (by omega) (fun hc0 => ?_) (fun hc0 => ?_)
  · refine r_goto (tgt := 1769) rfl rfl ?_
    refine r_lv (lv' := [(0, .retAddr 100), (1, .ref 0), (2, .ref 53), (3, .ref 76), (4, .int (nI i))]) [2, 3, 4, 5, 6] rfl ?_
    exact K _ _ _ _ hA' hI2 hM2 (by omega) (by omega)
  · have h0 : c = 0 := by omega
    rw [hv2 h0]
    have hout : σ2.2 76 0 = _ := (show σ2.2 76 0 = σ1.2 76 0 from by rw [(hF2 76 (Or.inr rfl)).2]).trans (hv1 h0)
    refine r_aload_n rfl rfl ?_
    refine n_iconst 0 rfl ?_
    refine s_lald (x := v.toInt64) rfl rfl (by decide) (hout) ?_
    refine r_iload rfl rfl ?_
    refine r_i2l rfl rfl ?_
    refine l_lcmp_same (tgt := 1174) rfl rfl rfl ?_
    refine r_goto (tgt := 1769) rfl rfl ?_
    refine r_lv (lv' := [(0, .retAddr 100), (1, .ref 0), (2, .ref 53), (3, .ref 76), (4, .int (nI i))]) [2, 3, 4, 5, 6] rfl ?_
    exact K _ _ _ _ hA' hI2 hM2 (by omega) (by omega)

set_option maxRecDepth 100000 in
theorem law_refuse {sc : SC} {σ : SS} {a : AB} {i k n : Nat} {Q : Out → SS → Prop} (hA : AV a) (hI : CI9 σ a) (hM : MI9 σ a) (hi : i + 6 ≤ sc.1) (hL : sc.1 ≤ 3072) (hk : k + 1 ≤ 1112) (hn : n + 6 ≤ 13189) (K : ∀ σ' a' k' n', AV a' → CI9 σ' a' → MI9 σ' a' → k' ≤ k + 1 → n' ≤ n + 6 → Ws (true, true) sc mL_law 1112 13189 k' n' 1769 [(0, .retAddr 100), (1, .ref 0), (2, .ref 53), (3, .ref 76), (4, .int (nI i))] [] σ' Q) : Ws (true, true) sc mL_law 1112 13189 k n 1177 [(0, .retAddr 100), (1, .ref 0), (2, .ref 53), (3, .ref 76), (4, .int (nI i))] [] σ Q := by
  have hi2 : sc.1 < 2147483648 := by omega
  refine r_aload_n rfl rfl ?_
  refine r_aload_nK rfl rfl (by decide) ?_
  refine r_iload rfl rfl ?_
  refine n_iconst 1 rfl ?_
  refine n_iadd rfl ?_
  refine r_sld (j := i + 1) rfl (by decide) (by omega) (by omega) ?_
  refine r_aload_nK rfl rfl (by decide) ?_
  refine r_iload rfl rfl ?_
  refine n_iconst 2 rfl ?_
  refine n_iadd rfl ?_
  refine r_sld (j := i + 2) rfl (by decide) (by omega) (by omega) ?_
  by_cases hb9 : (sc.2 (i + 2)) = 0
  · refine r_if_eq (tgt := 1197) rfl rfl (fun _ => ?_) (fun hq => absurd hq (fun z => z hb9))
    refine n_iconst 0 rfl ?_
    refine r_aload_n rfl rfl ?_
    obtain ⟨c, a', v, hc, hA', hCc, hMm⟩ := op_refuse (sc := sc) hA (sc.2 (i + 1)) false
    refine s_staWI [.ref 0, .int (sc.2 (i + 1)), .int (nI 0), .ref 76] [] rfl lkL_165 (hCc σ hI) rfl rfl (by omega) (by omega) ?_
    rintro _ σ1 ⟨rfl, hv1, hF1, hI1⟩
    have hM1 := MI9_fr hF1 hM
    refine r_istore (lv' := [(5, .int (nI c)), (0, .retAddr 100), (1, .ref 0), (2, .ref 53), (3, .ref 76), (4, .int (nI i))]) rfl (Nat.le_of_ble_eq_true rfl) rfl ?_
    refine r_aload_n rfl rfl ?_
    refine r_aload_nK rfl rfl (by decide) ?_
    refine r_iload rfl rfl ?_
    refine n_iconst 1 rfl ?_
    refine n_iadd rfl ?_
    refine r_sld (j := i + 1) rfl (by decide) (by omega) (by omega) ?_
    refine r_aload_nK rfl rfl (by decide) ?_
    refine r_iload rfl rfl ?_
    refine n_iconst 2 rfl ?_
    refine n_iadd rfl ?_
    refine r_sld (j := i + 2) rfl (by decide) (by omega) (by omega) ?_
    refine r_if_eq (tgt := 1224) rfl rfl (fun _ => ?_) (fun hq => absurd hq (fun z => z hb9))
    refine n_iconst 0 rfl ?_
    refine s_virI [.int (sc.2 (i + 1)), .int (nI 0)] [] rfl lkL_168 rfl rfl rfl (hMm σ1 hM1) rfl rfl (by omega) (by omega) rfl ?_
    rintro v6 σ2 ⟨hv2, ht, hF2, hM2⟩
    have hI2 := CI9_fr hF2.D hI1
    refine r_istore (lv' := [(6, .int v6), (5, .int (nI c)), (0, .retAddr 100), (1, .ref 0), (2, .ref 53), (3, .ref 76), (4, .int (nI i))]) rfl (Nat.le_of_ble_eq_true rfl) rfl ?_
    refine r_aload_n rfl rfl ?_
    refine s_virI [] [] rfl lkL_100 rfl rfl rfl (k_thrown ht) rfl rfl (by omega) (by omega) rfl (rI (e1 := nI c) rfl ?_)
    refine r_iload rfl rfl ?_
    refine n_icmp_eq (tgt := 1241) rfl rfl (by omega) (by omega) (fun _ => ?_) (fun hq => absurd hq (fun z => z rfl))
    refine r_iload rfl rfl ?_
    refine n_if_ne (tgt := 1265) rfl rfl (by omega) (fun hc0 => ?_) (fun hc0 => ?_)
    · refine r_goto (tgt := 1769) rfl rfl ?_
      refine r_lv (lv' := [(0, .retAddr 100), (1, .ref 0), (2, .ref 53), (3, .ref 76), (4, .int (nI i))]) [2, 3, 4, 5, 6] rfl ?_
      exact K _ _ _ _ hA' hI2 hM2 (by omega) (by omega)
    · have h0 : c = 0 := by omega
      rw [hv2 h0]
      have hout : σ2.2 76 0 = _ := (show σ2.2 76 0 = σ1.2 76 0 from by rw [(hF2 76 (Or.inr rfl)).2]).trans (hv1 h0)
      by_cases h7 : v = 0
      · refine r_aload_n rfl rfl ?_
        refine n_iconst 0 rfl ?_
        refine s_lald (x := lN 0) rfl rfl (by decide) (hout.trans (if_pos h7)) ?_
        refine r_iload rfl rfl ?_
        refine r_if_eq (tgt := 1258) rfl rfl (fun _ => ?_) (fun hq => absurd hq (fun z => z h7))
        refine n_lconst0 rfl ?_
        refine n_lcmp_eq (tgt := 1265) rfl rfl rfl (by decide) (by decide) (fun _ => ?_) (fun hq => absurd hq (fun z => z rfl))
        refine r_goto (tgt := 1769) rfl rfl ?_
        refine r_lv (lv' := [(0, .retAddr 100), (1, .ref 0), (2, .ref 53), (3, .ref 76), (4, .int (nI i))]) [2, 3, 4, 5, 6] rfl ?_
        exact K _ _ _ _ hA' hI2 hM2 (by omega) (by omega)
      · refine r_aload_n rfl rfl ?_
        refine n_iconst 0 rfl ?_
        refine s_lald (x := lN 1) rfl rfl (by decide) (hout.trans (if_neg h7)) ?_
        refine r_iload rfl rfl ?_
        refine r_if_eq (tgt := 1258) rfl rfl (fun hq => absurd hq h7) (fun _ => ?_)
        refine n_lconst1 rfl ?_
        refine r_goto (tgt := 1259) rfl rfl ?_
        refine n_lcmp_eq (tgt := 1265) rfl rfl rfl (by decide) (by decide) (fun _ => ?_) (fun hq => absurd hq (fun z => z rfl))
        refine r_goto (tgt := 1769) rfl rfl ?_
        refine r_lv (lv' := [(0, .retAddr 100), (1, .ref 0), (2, .ref 53), (3, .ref 76), (4, .int (nI i))]) [2, 3, 4, 5, 6] rfl ?_
        exact K _ _ _ _ hA' hI2 hM2 (by omega) (by omega)
  · refine r_if_eq (tgt := 1197) rfl rfl (fun hq => absurd hq hb9) (fun _ => ?_)
    refine n_iconst 1 rfl ?_
    refine r_goto (tgt := 1198) rfl rfl ?_
    refine r_aload_n rfl rfl ?_
    obtain ⟨c, a', v, hc, hA', hCc, hMm⟩ := op_refuse (sc := sc) hA (sc.2 (i + 1)) true
    refine s_staWI [.ref 0, .int (sc.2 (i + 1)), .int (nI 1), .ref 76] [] rfl lkL_165 (hCc σ hI) rfl rfl (by omega) (by omega) ?_
    rintro _ σ1 ⟨rfl, hv1, hF1, hI1⟩
    have hM1 := MI9_fr hF1 hM
    refine r_istore (lv' := [(5, .int (nI c)), (0, .retAddr 100), (1, .ref 0), (2, .ref 53), (3, .ref 76), (4, .int (nI i))]) rfl (Nat.le_of_ble_eq_true rfl) rfl ?_
    refine r_aload_n rfl rfl ?_
    refine r_aload_nK rfl rfl (by decide) ?_
    refine r_iload rfl rfl ?_
    refine n_iconst 1 rfl ?_
    refine n_iadd rfl ?_
    refine r_sld (j := i + 1) rfl (by decide) (by omega) (by omega) ?_
    refine r_aload_nK rfl rfl (by decide) ?_
    refine r_iload rfl rfl ?_
    refine n_iconst 2 rfl ?_
    refine n_iadd rfl ?_
    refine r_sld (j := i + 2) rfl (by decide) (by omega) (by omega) ?_
    refine r_if_eq (tgt := 1224) rfl rfl (fun hq => absurd hq hb9) (fun _ => ?_)
    refine n_iconst 1 rfl ?_
    refine r_goto (tgt := 1225) rfl rfl ?_
    refine s_virI [.int (sc.2 (i + 1)), .int (nI 1)] [] rfl lkL_168 rfl rfl rfl (hMm σ1 hM1) rfl rfl (by omega) (by omega) rfl ?_
    rintro v6 σ2 ⟨hv2, ht, hF2, hM2⟩
    have hI2 := CI9_fr hF2.D hI1
    refine r_istore (lv' := [(6, .int v6), (5, .int (nI c)), (0, .retAddr 100), (1, .ref 0), (2, .ref 53), (3, .ref 76), (4, .int (nI i))]) rfl (Nat.le_of_ble_eq_true rfl) rfl ?_
    refine r_aload_n rfl rfl ?_
    refine s_virI [] [] rfl lkL_100 rfl rfl rfl (k_thrown ht) rfl rfl (by omega) (by omega) rfl (rI (e1 := nI c) rfl ?_)
    refine r_iload rfl rfl ?_
    refine n_icmp_eq (tgt := 1241) rfl rfl (by omega) (by omega) (fun _ => ?_) (fun hq => absurd hq (fun z => z rfl))
    refine r_iload rfl rfl ?_
    refine n_if_ne (tgt := 1265) rfl rfl (by omega) (fun hc0 => ?_) (fun hc0 => ?_)
    · refine r_goto (tgt := 1769) rfl rfl ?_
      refine r_lv (lv' := [(0, .retAddr 100), (1, .ref 0), (2, .ref 53), (3, .ref 76), (4, .int (nI i))]) [2, 3, 4, 5, 6] rfl ?_
      exact K _ _ _ _ hA' hI2 hM2 (by omega) (by omega)
    · have h0 : c = 0 := by omega
      rw [hv2 h0]
      have hout : σ2.2 76 0 = _ := (show σ2.2 76 0 = σ1.2 76 0 from by rw [(hF2 76 (Or.inr rfl)).2]).trans (hv1 h0)
      by_cases h7 : v = 0
      · refine r_aload_n rfl rfl ?_
        refine n_iconst 0 rfl ?_
        refine s_lald (x := lN 0) rfl rfl (by decide) (hout.trans (if_pos h7)) ?_
        refine r_iload rfl rfl ?_
        refine r_if_eq (tgt := 1258) rfl rfl (fun _ => ?_) (fun hq => absurd hq (fun z => z h7))
        refine n_lconst0 rfl ?_
        refine n_lcmp_eq (tgt := 1265) rfl rfl rfl (by decide) (by decide) (fun _ => ?_) (fun hq => absurd hq (fun z => z rfl))
        refine r_goto (tgt := 1769) rfl rfl ?_
        refine r_lv (lv' := [(0, .retAddr 100), (1, .ref 0), (2, .ref 53), (3, .ref 76), (4, .int (nI i))]) [2, 3, 4, 5, 6] rfl ?_
        exact K _ _ _ _ hA' hI2 hM2 (by omega) (by omega)
      · refine r_aload_n rfl rfl ?_
        refine n_iconst 0 rfl ?_
        refine s_lald (x := lN 1) rfl rfl (by decide) (hout.trans (if_neg h7)) ?_
        refine r_iload rfl rfl ?_
        refine r_if_eq (tgt := 1258) rfl rfl (fun hq => absurd hq h7) (fun _ => ?_)
        refine n_lconst1 rfl ?_
        refine r_goto (tgt := 1259) rfl rfl ?_
        refine n_lcmp_eq (tgt := 1265) rfl rfl rfl (by decide) (by decide) (fun _ => ?_) (fun hq => absurd hq (fun z => z rfl))
        refine r_goto (tgt := 1769) rfl rfl ?_
        refine r_lv (lv' := [(0, .retAddr 100), (1, .ref 0), (2, .ref 53), (3, .ref 76), (4, .int (nI i))]) [2, 3, 4, 5, 6] rfl ?_
        exact K _ _ _ _ hA' hI2 hM2 (by omega) (by omega)

set_option maxRecDepth 100000 in
theorem law_die {sc : SC} {σ : SS} {a : AB} {i k n : Nat} {Q : Out → SS → Prop} (hA : AV a) (hI : CI9 σ a) (hM : MI9 σ a) (hi : i + 6 ≤ sc.1) (hL : sc.1 ≤ 3072) (hk : k + 1 ≤ 1112) (hn : n + 6 ≤ 13189) (K : ∀ σ' a' k' n', AV a' → CI9 σ' a' → MI9 σ' a' → k' ≤ k + 1 → n' ≤ n + 6 → Ws (true, true) sc mL_law 1112 13189 k' n' 1769 [(0, .retAddr 100), (1, .ref 0), (2, .ref 53), (3, .ref 76), (4, .int (nI i))] [] σ' Q) : Ws (true, true) sc mL_law 1112 13189 k n 1268 [(0, .retAddr 100), (1, .ref 0), (2, .ref 53), (3, .ref 76), (4, .int (nI i))] [] σ Q := by
  have hi2 : sc.1 < 2147483648 := by omega
  refine r_aload_n rfl rfl ?_
  refine r_aload_nK rfl rfl (by decide) ?_
  refine r_iload rfl rfl ?_
  refine n_iconst 1 rfl ?_
  refine n_iadd rfl ?_
  refine r_sld (j := i + 1) rfl (by decide) (by omega) (by omega) ?_
  refine r_aload_n rfl rfl ?_
  obtain ⟨c, a', v, hc, hA', hCc, hMm⟩ := op_die (sc := sc) hA (sc.2 (i + 1))
  refine s_staWI [.ref 0, .int (sc.2 (i + 1)), .ref 76] [] rfl lkL_169 (hCc σ hI) rfl rfl (by omega) (by omega) ?_
  rintro _ σ1 ⟨rfl, hv1, hF1, hI1⟩
  have hM1 := MI9_fr hF1 hM
  refine r_istore (lv' := [(5, .int (nI c)), (0, .retAddr 100), (1, .ref 0), (2, .ref 53), (3, .ref 76), (4, .int (nI i))]) rfl (Nat.le_of_ble_eq_true rfl) rfl ?_
  refine r_aload_n rfl rfl ?_
  refine r_aload_nK rfl rfl (by decide) ?_
  refine r_iload rfl rfl ?_
  refine n_iconst 1 rfl ?_
  refine n_iadd rfl ?_
  refine r_sld (j := i + 1) rfl (by decide) (by omega) (by omega) ?_
  refine s_virI [.int (sc.2 (i + 1))] [] rfl lkL_171 rfl rfl rfl (hMm σ1 hM1) rfl rfl (by omega) (by omega) rfl ?_
  rintro v6 σ2 ⟨hv2, ht, hF2, hM2⟩
  have hI2 := CI9_fr hF2.D hI1
  refine r_istore (lv' := [(6, .int v6), (5, .int (nI c)), (0, .retAddr 100), (1, .ref 0), (2, .ref 53), (3, .ref 76), (4, .int (nI i))]) rfl (Nat.le_of_ble_eq_true rfl) rfl ?_
  refine r_aload_n rfl rfl ?_
  refine s_virI [] [] rfl lkL_100 rfl rfl rfl (k_thrown ht) rfl rfl (by omega) (by omega) rfl (rI (e1 := nI c) rfl ?_)
  refine r_iload rfl rfl ?_
  refine n_icmp_eq (tgt := 1304) rfl rfl (by omega) (by omega) (fun _ => ?_) (fun hq => absurd hq (fun z => z rfl))
  refine r_iload rfl rfl ?_
  refine n_if_ne (tgt := 1321) rfl rfl (by omega) (fun hc0 => ?_) (fun hc0 => ?_)
  · refine r_goto (tgt := 1769) rfl rfl ?_
    refine r_lv (lv' := [(0, .retAddr 100), (1, .ref 0), (2, .ref 53), (3, .ref 76), (4, .int (nI i))]) [2, 3, 4, 5, 6] rfl ?_
    exact K _ _ _ _ hA' hI2 hM2 (by omega) (by omega)
  · have h0 : c = 0 := by omega
    rw [hv2 h0]
    have hout : σ2.2 76 0 = _ := (show σ2.2 76 0 = σ1.2 76 0 from by rw [(hF2 76 (Or.inr rfl)).2]).trans (hv1 h0)
    refine r_aload_n rfl rfl ?_
    refine n_iconst 0 rfl ?_
    refine s_lald (x := v.toInt64) rfl rfl (by decide) (hout) ?_
    refine r_iload rfl rfl ?_
    refine r_i2l rfl rfl ?_
    refine l_lcmp_same (tgt := 1321) rfl rfl rfl ?_
    refine r_goto (tgt := 1769) rfl rfl ?_
    refine r_lv (lv' := [(0, .retAddr 100), (1, .ref 0), (2, .ref 53), (3, .ref 76), (4, .int (nI i))]) [2, 3, 4, 5, 6] rfl ?_
    exact K _ _ _ _ hA' hI2 hM2 (by omega) (by omega)

set_option maxRecDepth 100000 in
theorem law_setAge {sc : SC} {σ : SS} {a : AB} {i k n : Nat} {Q : Out → SS → Prop} (hA : AV a) (hI : CI9 σ a) (hM : MI9 σ a) (hi : i + 6 ≤ sc.1) (hL : sc.1 ≤ 3072) (hk : k + 1 ≤ 1112) (hn : n + 6 ≤ 13189) (K : ∀ σ' a' k' n', AV a' → CI9 σ' a' → MI9 σ' a' → k' ≤ k + 1 → n' ≤ n + 6 → Ws (true, true) sc mL_law 1112 13189 k' n' 1769 [(0, .retAddr 100), (1, .ref 0), (2, .ref 53), (3, .ref 76), (4, .int (nI i))] [] σ' Q) : Ws (true, true) sc mL_law 1112 13189 k n 1324 [(0, .retAddr 100), (1, .ref 0), (2, .ref 53), (3, .ref 76), (4, .int (nI i))] [] σ Q := by
  have hi2 : sc.1 < 2147483648 := by omega
  refine r_aload_n rfl rfl ?_
  refine r_aload_nK rfl rfl (by decide) ?_
  refine r_iload rfl rfl ?_
  refine n_iconst 1 rfl ?_
  refine n_iadd rfl ?_
  refine r_sld (j := i + 1) rfl (by decide) (by omega) (by omega) ?_
  refine r_aload_nK rfl rfl (by decide) ?_
  refine r_iload rfl rfl ?_
  refine n_iconst 2 rfl ?_
  refine n_iadd rfl ?_
  refine r_sld (j := i + 2) rfl (by decide) (by omega) (by omega) ?_
  refine r_aload_n rfl rfl ?_
  obtain ⟨c, a', v, hc, hA', hCc, hMm⟩ := op_setAge (sc := sc) hA (sc.2 (i + 1)) (sc.2 (i + 2))
  refine s_staWI [.ref 0, .int (sc.2 (i + 1)), .int (sc.2 (i + 2)), .ref 76] [] rfl lkL_172 (hCc σ hI) rfl rfl (by omega) (by omega) ?_
  rintro _ σ1 ⟨rfl, hv1, hF1, hI1⟩
  have hM1 := MI9_fr hF1 hM
  refine r_istore (lv' := [(5, .int (nI c)), (0, .retAddr 100), (1, .ref 0), (2, .ref 53), (3, .ref 76), (4, .int (nI i))]) rfl (Nat.le_of_ble_eq_true rfl) rfl ?_
  refine r_aload_n rfl rfl ?_
  refine r_aload_nK rfl rfl (by decide) ?_
  refine r_iload rfl rfl ?_
  refine n_iconst 1 rfl ?_
  refine n_iadd rfl ?_
  refine r_sld (j := i + 1) rfl (by decide) (by omega) (by omega) ?_
  refine r_aload_nK rfl rfl (by decide) ?_
  refine r_iload rfl rfl ?_
  refine n_iconst 2 rfl ?_
  refine n_iadd rfl ?_
  refine r_sld (j := i + 2) rfl (by decide) (by omega) (by omega) ?_
  refine s_virI [.int (sc.2 (i + 1)), .int (sc.2 (i + 2))] [] rfl lkL_174 rfl rfl rfl (hMm σ1 hM1) rfl rfl (by omega) (by omega) rfl ?_
  rintro v6 σ2 ⟨hv2, ht, hF2, hM2⟩
  have hI2 := CI9_fr hF2.D hI1
  refine r_istore (lv' := [(6, .int v6), (5, .int (nI c)), (0, .retAddr 100), (1, .ref 0), (2, .ref 53), (3, .ref 76), (4, .int (nI i))]) rfl (Nat.le_of_ble_eq_true rfl) rfl ?_
  refine r_aload_n rfl rfl ?_
  refine s_virI [] [] rfl lkL_100 rfl rfl rfl (k_thrown ht) rfl rfl (by omega) (by omega) rfl (rI (e1 := nI c) rfl ?_)
  refine r_iload rfl rfl ?_
  refine n_icmp_eq (tgt := 1372) rfl rfl (by omega) (by omega) (fun _ => ?_) (fun hq => absurd hq (fun z => z rfl))
  refine r_iload rfl rfl ?_
  refine n_if_ne (tgt := 1389) rfl rfl (by omega) (fun hc0 => ?_) (fun hc0 => ?_)
  · refine r_goto (tgt := 1769) rfl rfl ?_
    refine r_lv (lv' := [(0, .retAddr 100), (1, .ref 0), (2, .ref 53), (3, .ref 76), (4, .int (nI i))]) [2, 3, 4, 5, 6] rfl ?_
    exact K _ _ _ _ hA' hI2 hM2 (by omega) (by omega)
  · have h0 : c = 0 := by omega
    rw [hv2 h0]
    have hout : σ2.2 76 0 = _ := (show σ2.2 76 0 = σ1.2 76 0 from by rw [(hF2 76 (Or.inr rfl)).2]).trans (hv1 h0)
    refine r_aload_n rfl rfl ?_
    refine n_iconst 0 rfl ?_
    refine s_lald (x := v.toInt64) rfl rfl (by decide) (hout) ?_
    refine r_iload rfl rfl ?_
    refine r_i2l rfl rfl ?_
    refine l_lcmp_same (tgt := 1389) rfl rfl rfl ?_
    refine r_goto (tgt := 1769) rfl rfl ?_
    refine r_lv (lv' := [(0, .retAddr 100), (1, .ref 0), (2, .ref 53), (3, .ref 76), (4, .int (nI i))]) [2, 3, 4, 5, 6] rfl ?_
    exact K _ _ _ _ hA' hI2 hM2 (by omega) (by omega)

set_option maxRecDepth 100000 in
theorem law_addGift {sc : SC} {σ : SS} {a : AB} {i k n : Nat} {Q : Out → SS → Prop} (hA : AV a) (hI : CI9 σ a) (hM : MI9 σ a) (hi : i + 6 ≤ sc.1) (hL : sc.1 ≤ 3072) (hk : k + 1 ≤ 1112) (hn : n + 6 ≤ 13189) (K : ∀ σ' a' k' n', AV a' → CI9 σ' a' → MI9 σ' a' → k' ≤ k + 1 → n' ≤ n + 6 → Ws (true, true) sc mL_law 1112 13189 k' n' 1769 [(0, .retAddr 100), (1, .ref 0), (2, .ref 53), (3, .ref 76), (4, .int (nI i))] [] σ' Q) : Ws (true, true) sc mL_law 1112 13189 k n 1392 [(0, .retAddr 100), (1, .ref 0), (2, .ref 53), (3, .ref 76), (4, .int (nI i))] [] σ Q := by
  have hi2 : sc.1 < 2147483648 := by omega
  refine r_aload_n rfl rfl ?_
  refine r_aload_nK rfl rfl (by decide) ?_
  refine r_iload rfl rfl ?_
  refine n_iconst 1 rfl ?_
  refine n_iadd rfl ?_
  refine r_sld (j := i + 1) rfl (by decide) (by omega) (by omega) ?_
  refine r_aload_nK rfl rfl (by decide) ?_
  refine r_iload rfl rfl ?_
  refine n_iconst 2 rfl ?_
  refine n_iadd rfl ?_
  refine r_sld (j := i + 2) rfl (by decide) (by omega) (by omega) ?_
  refine r_aload_n rfl rfl ?_
  obtain ⟨c, a', v, hc, hA', hCc, hMm⟩ := op_addGift (sc := sc) hA (sc.2 (i + 1)) (sc.2 (i + 2))
  refine s_staWI [.ref 0, .int (sc.2 (i + 1)), .int (sc.2 (i + 2)), .ref 76] [] rfl lkL_175 (hCc σ hI) rfl rfl (by omega) (by omega) ?_
  rintro _ σ1 ⟨rfl, hv1, hF1, hI1⟩
  have hM1 := MI9_fr hF1 hM
  refine r_istore (lv' := [(5, .int (nI c)), (0, .retAddr 100), (1, .ref 0), (2, .ref 53), (3, .ref 76), (4, .int (nI i))]) rfl (Nat.le_of_ble_eq_true rfl) rfl ?_
  refine r_aload_n rfl rfl ?_
  refine r_aload_nK rfl rfl (by decide) ?_
  refine r_iload rfl rfl ?_
  refine n_iconst 1 rfl ?_
  refine n_iadd rfl ?_
  refine r_sld (j := i + 1) rfl (by decide) (by omega) (by omega) ?_
  refine r_aload_nK rfl rfl (by decide) ?_
  refine r_iload rfl rfl ?_
  refine n_iconst 2 rfl ?_
  refine n_iadd rfl ?_
  refine r_sld (j := i + 2) rfl (by decide) (by omega) (by omega) ?_
  refine s_virI [.int (sc.2 (i + 1)), .int (sc.2 (i + 2))] [] rfl lkL_177 rfl rfl rfl (hMm σ1 hM1) rfl rfl (by omega) (by omega) rfl ?_
  rintro v6 σ2 ⟨hv2, ht, hF2, hM2⟩
  have hI2 := CI9_fr hF2.D hI1
  refine r_istore (lv' := [(6, .int v6), (5, .int (nI c)), (0, .retAddr 100), (1, .ref 0), (2, .ref 53), (3, .ref 76), (4, .int (nI i))]) rfl (Nat.le_of_ble_eq_true rfl) rfl ?_
  refine r_aload_n rfl rfl ?_
  refine s_virI [] [] rfl lkL_100 rfl rfl rfl (k_thrown ht) rfl rfl (by omega) (by omega) rfl (rI (e1 := nI c) rfl ?_)
  refine r_iload rfl rfl ?_
  refine n_icmp_eq (tgt := 1440) rfl rfl (by omega) (by omega) (fun _ => ?_) (fun hq => absurd hq (fun z => z rfl))
  refine r_iload rfl rfl ?_
  refine n_if_ne (tgt := 1457) rfl rfl (by omega) (fun hc0 => ?_) (fun hc0 => ?_)
  · refine r_goto (tgt := 1769) rfl rfl ?_
    refine r_lv (lv' := [(0, .retAddr 100), (1, .ref 0), (2, .ref 53), (3, .ref 76), (4, .int (nI i))]) [2, 3, 4, 5, 6] rfl ?_
    exact K _ _ _ _ hA' hI2 hM2 (by omega) (by omega)
  · have h0 : c = 0 := by omega
    rw [hv2 h0]
    have hout : σ2.2 76 0 = _ := (show σ2.2 76 0 = σ1.2 76 0 from by rw [(hF2 76 (Or.inr rfl)).2]).trans (hv1 h0)
    refine r_aload_n rfl rfl ?_
    refine n_iconst 0 rfl ?_
    refine s_lald (x := v.toInt64) rfl rfl (by decide) (hout) ?_
    refine r_iload rfl rfl ?_
    refine r_i2l rfl rfl ?_
    refine l_lcmp_same (tgt := 1457) rfl rfl rfl ?_
    refine r_goto (tgt := 1769) rfl rfl ?_
    refine r_lv (lv' := [(0, .retAddr 100), (1, .ref 0), (2, .ref 53), (3, .ref 76), (4, .int (nI i))]) [2, 3, 4, 5, 6] rfl ?_
    exact K _ _ _ _ hA' hI2 hM2 (by omega) (by omega)

set_option maxRecDepth 100000 in
theorem law_addDebt {sc : SC} {σ : SS} {a : AB} {i k n : Nat} {Q : Out → SS → Prop} (hA : AV a) (hI : CI9 σ a) (hM : MI9 σ a) (hi : i + 6 ≤ sc.1) (hL : sc.1 ≤ 3072) (hk : k + 1 ≤ 1112) (hn : n + 6 ≤ 13189) (K : ∀ σ' a' k' n', AV a' → CI9 σ' a' → MI9 σ' a' → k' ≤ k + 1 → n' ≤ n + 6 → Ws (true, true) sc mL_law 1112 13189 k' n' 1769 [(0, .retAddr 100), (1, .ref 0), (2, .ref 53), (3, .ref 76), (4, .int (nI i))] [] σ' Q) : Ws (true, true) sc mL_law 1112 13189 k n 1460 [(0, .retAddr 100), (1, .ref 0), (2, .ref 53), (3, .ref 76), (4, .int (nI i))] [] σ Q := by
  have hi2 : sc.1 < 2147483648 := by omega
  refine r_aload_n rfl rfl ?_
  refine r_aload_nK rfl rfl (by decide) ?_
  refine r_iload rfl rfl ?_
  refine n_iconst 1 rfl ?_
  refine n_iadd rfl ?_
  refine r_sld (j := i + 1) rfl (by decide) (by omega) (by omega) ?_
  refine r_aload_nK rfl rfl (by decide) ?_
  refine r_iload rfl rfl ?_
  refine n_iconst 2 rfl ?_
  refine n_iadd rfl ?_
  refine r_sld (j := i + 2) rfl (by decide) (by omega) (by omega) ?_
  refine r_aload_n rfl rfl ?_
  obtain ⟨c, a', v, hc, hA', hCc, hMm⟩ := op_addDebt (sc := sc) hA (sc.2 (i + 1)) (sc.2 (i + 2))
  refine s_staWI [.ref 0, .int (sc.2 (i + 1)), .int (sc.2 (i + 2)), .ref 76] [] rfl lkL_178 (hCc σ hI) rfl rfl (by omega) (by omega) ?_
  rintro _ σ1 ⟨rfl, hv1, hF1, hI1⟩
  have hM1 := MI9_fr hF1 hM
  refine r_istore (lv' := [(5, .int (nI c)), (0, .retAddr 100), (1, .ref 0), (2, .ref 53), (3, .ref 76), (4, .int (nI i))]) rfl (Nat.le_of_ble_eq_true rfl) rfl ?_
  refine r_aload_n rfl rfl ?_
  refine r_aload_nK rfl rfl (by decide) ?_
  refine r_iload rfl rfl ?_
  refine n_iconst 1 rfl ?_
  refine n_iadd rfl ?_
  refine r_sld (j := i + 1) rfl (by decide) (by omega) (by omega) ?_
  refine r_aload_nK rfl rfl (by decide) ?_
  refine r_iload rfl rfl ?_
  refine n_iconst 2 rfl ?_
  refine n_iadd rfl ?_
  refine r_sld (j := i + 2) rfl (by decide) (by omega) (by omega) ?_
  refine s_virI [.int (sc.2 (i + 1)), .int (sc.2 (i + 2))] [] rfl lkL_180 rfl rfl rfl (hMm σ1 hM1) rfl rfl (by omega) (by omega) rfl ?_
  rintro v6 σ2 ⟨hv2, ht, hF2, hM2⟩
  have hI2 := CI9_fr hF2.D hI1
  refine r_istore (lv' := [(6, .int v6), (5, .int (nI c)), (0, .retAddr 100), (1, .ref 0), (2, .ref 53), (3, .ref 76), (4, .int (nI i))]) rfl (Nat.le_of_ble_eq_true rfl) rfl ?_
  refine r_aload_n rfl rfl ?_
  refine s_virI [] [] rfl lkL_100 rfl rfl rfl (k_thrown ht) rfl rfl (by omega) (by omega) rfl (rI (e1 := nI c) rfl ?_)
  refine r_iload rfl rfl ?_
  refine n_icmp_eq (tgt := 1508) rfl rfl (by omega) (by omega) (fun _ => ?_) (fun hq => absurd hq (fun z => z rfl))
  refine r_iload rfl rfl ?_
  refine n_if_ne (tgt := 1525) rfl rfl (by omega) (fun hc0 => ?_) (fun hc0 => ?_)
  · refine r_goto (tgt := 1769) rfl rfl ?_
    refine r_lv (lv' := [(0, .retAddr 100), (1, .ref 0), (2, .ref 53), (3, .ref 76), (4, .int (nI i))]) [2, 3, 4, 5, 6] rfl ?_
    exact K _ _ _ _ hA' hI2 hM2 (by omega) (by omega)
  · have h0 : c = 0 := by omega
    rw [hv2 h0]
    have hout : σ2.2 76 0 = _ := (show σ2.2 76 0 = σ1.2 76 0 from by rw [(hF2 76 (Or.inr rfl)).2]).trans (hv1 h0)
    refine r_aload_n rfl rfl ?_
    refine n_iconst 0 rfl ?_
    refine s_lald (x := v.toInt64) rfl rfl (by decide) (hout) ?_
    refine r_iload rfl rfl ?_
    refine r_i2l rfl rfl ?_
    refine l_lcmp_same (tgt := 1525) rfl rfl rfl ?_
    refine r_goto (tgt := 1769) rfl rfl ?_
    refine r_lv (lv' := [(0, .retAddr 100), (1, .ref 0), (2, .ref 53), (3, .ref 76), (4, .int (nI i))]) [2, 3, 4, 5, 6] rfl ?_
    exact K _ _ _ _ hA' hI2 hM2 (by omega) (by omega)

set_option maxRecDepth 100000 in
theorem law_setValue {sc : SC} {σ : SS} {a : AB} {i k n : Nat} {Q : Out → SS → Prop} (hA : AV a) (hI : CI9 σ a) (hM : MI9 σ a) (hi : i + 6 ≤ sc.1) (hL : sc.1 ≤ 3072) (hk : k + 1 ≤ 1112) (hn : n + 6 ≤ 13189) (K : ∀ σ' a' k' n', AV a' → CI9 σ' a' → MI9 σ' a' → k' ≤ k + 1 → n' ≤ n + 6 → Ws (true, true) sc mL_law 1112 13189 k' n' 1769 [(0, .retAddr 100), (1, .ref 0), (2, .ref 53), (3, .ref 76), (4, .int (nI i))] [] σ' Q) : Ws (true, true) sc mL_law 1112 13189 k n 1528 [(0, .retAddr 100), (1, .ref 0), (2, .ref 53), (3, .ref 76), (4, .int (nI i))] [] σ Q := by
  have hi2 : sc.1 < 2147483648 := by omega
  refine r_aload_n rfl rfl ?_
  refine r_aload_nK rfl rfl (by decide) ?_
  refine r_iload rfl rfl ?_
  refine n_iconst 1 rfl ?_
  refine n_iadd rfl ?_
  refine r_sld (j := i + 1) rfl (by decide) (by omega) (by omega) ?_
  refine r_aload_nK rfl rfl (by decide) ?_
  refine r_iload rfl rfl ?_
  refine n_iconst 2 rfl ?_
  refine n_iadd rfl ?_
  refine r_sld (j := i + 2) rfl (by decide) (by omega) (by omega) ?_
  refine r_aload_n rfl rfl ?_
  obtain ⟨c, a', v, hc, hA', hCc, hMm⟩ := op_setValue (sc := sc) hA (sc.2 (i + 1)) (sc.2 (i + 2))
  refine s_staWI [.ref 0, .int (sc.2 (i + 1)), .int (sc.2 (i + 2)), .ref 76] [] rfl lkL_181 (hCc σ hI) rfl rfl (by omega) (by omega) ?_
  rintro _ σ1 ⟨rfl, hv1, hF1, hI1⟩
  have hM1 := MI9_fr hF1 hM
  refine r_istore (lv' := [(5, .int (nI c)), (0, .retAddr 100), (1, .ref 0), (2, .ref 53), (3, .ref 76), (4, .int (nI i))]) rfl (Nat.le_of_ble_eq_true rfl) rfl ?_
  refine r_aload_n rfl rfl ?_
  refine r_aload_nK rfl rfl (by decide) ?_
  refine r_iload rfl rfl ?_
  refine n_iconst 1 rfl ?_
  refine n_iadd rfl ?_
  refine r_sld (j := i + 1) rfl (by decide) (by omega) (by omega) ?_
  refine r_aload_nK rfl rfl (by decide) ?_
  refine r_iload rfl rfl ?_
  refine n_iconst 2 rfl ?_
  refine n_iadd rfl ?_
  refine r_sld (j := i + 2) rfl (by decide) (by omega) (by omega) ?_
  refine s_virI [.int (sc.2 (i + 1)), .int (sc.2 (i + 2))] [] rfl lkL_183 rfl rfl rfl (hMm σ1 hM1) rfl rfl (by omega) (by omega) rfl ?_
  rintro v6 σ2 ⟨hv2, ht, hF2, hM2⟩
  have hI2 := CI9_fr hF2.D hI1
  refine r_istore (lv' := [(6, .int v6), (5, .int (nI c)), (0, .retAddr 100), (1, .ref 0), (2, .ref 53), (3, .ref 76), (4, .int (nI i))]) rfl (Nat.le_of_ble_eq_true rfl) rfl ?_
  refine r_aload_n rfl rfl ?_
  refine s_virI [] [] rfl lkL_100 rfl rfl rfl (k_thrown ht) rfl rfl (by omega) (by omega) rfl (rI (e1 := nI c) rfl ?_)
  refine r_iload rfl rfl ?_
  refine n_icmp_eq (tgt := 1576) rfl rfl (by omega) (by omega) (fun _ => ?_) (fun hq => absurd hq (fun z => z rfl))
  refine r_iload rfl rfl ?_
  refine n_if_ne (tgt := 1593) rfl rfl (by omega) (fun hc0 => ?_) (fun hc0 => ?_)
  · refine r_goto (tgt := 1769) rfl rfl ?_
    refine r_lv (lv' := [(0, .retAddr 100), (1, .ref 0), (2, .ref 53), (3, .ref 76), (4, .int (nI i))]) [2, 3, 4, 5, 6] rfl ?_
    exact K _ _ _ _ hA' hI2 hM2 (by omega) (by omega)
  · have h0 : c = 0 := by omega
    rw [hv2 h0]
    have hout : σ2.2 76 0 = _ := (show σ2.2 76 0 = σ1.2 76 0 from by rw [(hF2 76 (Or.inr rfl)).2]).trans (hv1 h0)
    refine r_aload_n rfl rfl ?_
    refine n_iconst 0 rfl ?_
    refine s_lald (x := v.toInt64) rfl rfl (by decide) (hout) ?_
    refine r_iload rfl rfl ?_
    refine r_i2l rfl rfl ?_
    refine l_lcmp_same (tgt := 1593) rfl rfl rfl ?_
    refine r_goto (tgt := 1769) rfl rfl ?_
    refine r_lv (lv' := [(0, .retAddr 100), (1, .ref 0), (2, .ref 53), (3, .ref 76), (4, .int (nI i))]) [2, 3, 4, 5, 6] rfl ?_
    exact K _ _ _ _ hA' hI2 hM2 (by omega) (by omega)

set_option maxRecDepth 100000 in
theorem law_setAccrue {sc : SC} {σ : SS} {a : AB} {i k n : Nat} {Q : Out → SS → Prop} (hA : AV a) (hI : CI9 σ a) (hM : MI9 σ a) (hi : i + 6 ≤ sc.1) (hL : sc.1 ≤ 3072) (hk : k + 1 ≤ 1112) (hn : n + 6 ≤ 13189) (K : ∀ σ' a' k' n', AV a' → CI9 σ' a' → MI9 σ' a' → k' ≤ k + 1 → n' ≤ n + 6 → Ws (true, true) sc mL_law 1112 13189 k' n' 1769 [(0, .retAddr 100), (1, .ref 0), (2, .ref 53), (3, .ref 76), (4, .int (nI i))] [] σ' Q) : Ws (true, true) sc mL_law 1112 13189 k n 1596 [(0, .retAddr 100), (1, .ref 0), (2, .ref 53), (3, .ref 76), (4, .int (nI i))] [] σ Q := by
  have hi2 : sc.1 < 2147483648 := by omega
  refine r_aload_n rfl rfl ?_
  refine r_aload_nK rfl rfl (by decide) ?_
  refine r_iload rfl rfl ?_
  refine n_iconst 1 rfl ?_
  refine n_iadd rfl ?_
  refine r_sld (j := i + 1) rfl (by decide) (by omega) (by omega) ?_
  by_cases hb9 : (sc.2 (i + 1)) = 0
  · refine r_if_eq (tgt := 1610) rfl rfl (fun _ => ?_) (fun hq => absurd hq (fun z => z hb9))
    refine n_iconst 0 rfl ?_
    obtain ⟨a', v, hA', hCc, hMm⟩ := op_setAccrue (sc := sc) hA false
    refine s_virI [.int (nI 0)] [] rfl lkL_184 rfl rfl rfl (hCc σ hI) rfl rfl (by omega) (by omega) rfl ?_
    rintro r1 σ1 ⟨hr1, hF1, hI1⟩
    rw [hr1]
    have hM1 := MI9_fr hF1 hM
    refine r_aload_n rfl rfl ?_
    refine r_aload_nK rfl rfl (by decide) ?_
    refine r_iload rfl rfl ?_
    refine n_iconst 1 rfl ?_
    refine n_iadd rfl ?_
    refine r_sld (j := i + 1) rfl (by decide) (by omega) (by omega) ?_
    refine r_if_eq (tgt := 1628) rfl rfl (fun _ => ?_) (fun hq => absurd hq (fun z => z hb9))
    refine n_iconst 0 rfl ?_
    refine s_virI [.int (nI 0)] [.int v] rfl lkL_188 rfl rfl rfl (hMm σ1 hM1) rfl rfl (by omega) (by omega) rfl ?_
    rintro v6 σ2 ⟨hv2, ht, hF2, hM2⟩
    have hI2 := CI9_fr hF2.D hI1
    rw [hv2 rfl]
    refine r_icmp_eq (tgt := 1769) rfl rfl (fun _ => ?_) (fun hq => absurd hq (fun z => z rfl))
    refine r_lv (lv' := [(0, .retAddr 100), (1, .ref 0), (2, .ref 53), (3, .ref 76), (4, .int (nI i))]) [0, 1, 2, 3, 4] rfl ?_
    exact K _ _ _ _ hA' hI2 hM2 (by omega) (by omega)
  · refine r_if_eq (tgt := 1610) rfl rfl (fun hq => absurd hq hb9) (fun _ => ?_)
    refine n_iconst 1 rfl ?_
    refine r_goto (tgt := 1611) rfl rfl ?_
    obtain ⟨a', v, hA', hCc, hMm⟩ := op_setAccrue (sc := sc) hA true
    refine s_virI [.int (nI 1)] [] rfl lkL_184 rfl rfl rfl (hCc σ hI) rfl rfl (by omega) (by omega) rfl ?_
    rintro r1 σ1 ⟨hr1, hF1, hI1⟩
    rw [hr1]
    have hM1 := MI9_fr hF1 hM
    refine r_aload_n rfl rfl ?_
    refine r_aload_nK rfl rfl (by decide) ?_
    refine r_iload rfl rfl ?_
    refine n_iconst 1 rfl ?_
    refine n_iadd rfl ?_
    refine r_sld (j := i + 1) rfl (by decide) (by omega) (by omega) ?_
    refine r_if_eq (tgt := 1628) rfl rfl (fun hq => absurd hq hb9) (fun _ => ?_)
    refine n_iconst 1 rfl ?_
    refine r_goto (tgt := 1629) rfl rfl ?_
    refine s_virI [.int (nI 1)] [.int v] rfl lkL_188 rfl rfl rfl (hMm σ1 hM1) rfl rfl (by omega) (by omega) rfl ?_
    rintro v6 σ2 ⟨hv2, ht, hF2, hM2⟩
    have hI2 := CI9_fr hF2.D hI1
    rw [hv2 rfl]
    refine r_icmp_eq (tgt := 1769) rfl rfl (fun _ => ?_) (fun hq => absurd hq (fun z => z rfl))
    refine r_lv (lv' := [(0, .retAddr 100), (1, .ref 0), (2, .ref 53), (3, .ref 76), (4, .int (nI i))]) [0, 1, 2, 3, 4] rfl ?_
    exact K _ _ _ _ hA' hI2 hM2 (by omega) (by omega)

set_option maxRecDepth 100000 in
theorem law_undo {sc : SC} {σ : SS} {a : AB} {i k n : Nat} {Q : Out → SS → Prop} (hA : AV a) (hI : CI9 σ a) (hM : MI9 σ a) (hi : i + 6 ≤ sc.1) (hL : sc.1 ≤ 3072) (hk : k + 1 ≤ 1112) (hn : n + 6 ≤ 13189) (K : ∀ σ' a' k' n', AV a' → CI9 σ' a' → MI9 σ' a' → k' ≤ k + 1 → n' ≤ n + 6 → Ws (true, true) sc mL_law 1112 13189 k' n' 1769 [(0, .retAddr 100), (1, .ref 0), (2, .ref 53), (3, .ref 76), (4, .int (nI i))] [] σ' Q) : Ws (true, true) sc mL_law 1112 13189 k n 1637 [(0, .retAddr 100), (1, .ref 0), (2, .ref 53), (3, .ref 76), (4, .int (nI i))] [] σ Q := by
  have hi2 : sc.1 < 2147483648 := by omega
  refine r_aload_n rfl rfl ?_
  obtain ⟨a', v, hA', hCc, hMm⟩ := op_undo (sc := sc) hA 
  refine s_virI [] [] rfl lkL_189 rfl rfl rfl (hCc σ hI) rfl rfl (by omega) (by omega) rfl ?_
  rintro r1 σ1 ⟨hr1, hF1, hI1⟩
  rw [hr1]
  have hM1 := MI9_fr hF1 hM
  refine r_aload_n rfl rfl ?_
  refine s_virI [] [.int v] rfl lkL_192 rfl rfl rfl (hMm σ1 hM1) rfl rfl (by omega) (by omega) rfl ?_
  rintro v6 σ2 ⟨hv2, ht, hF2, hM2⟩
  have hI2 := CI9_fr hF2.D hI1
  rw [hv2 rfl]
  refine r_icmp_eq (tgt := 1769) rfl rfl (fun _ => ?_) (fun hq => absurd hq (fun z => z rfl))
  refine r_lv (lv' := [(0, .retAddr 100), (1, .ref 0), (2, .ref 53), (3, .ref 76), (4, .int (nI i))]) [0, 1, 2, 3, 4] rfl ?_
  exact K _ _ _ _ hA' hI2 hM2 (by omega) (by omega)

set_option maxRecDepth 100000 in
theorem law_saveSnapshot {sc : SC} {σ : SS} {a : AB} {i k n : Nat} {Q : Out → SS → Prop} (hA : AV a) (hI : CI9 σ a) (hM : MI9 σ a) (hi : i + 6 ≤ sc.1) (hL : sc.1 ≤ 3072) (hk : k + 1 ≤ 1112) (hn : n + 6 ≤ 13189) (K : ∀ σ' a' k' n', AV a' → CI9 σ' a' → MI9 σ' a' → k' ≤ k + 1 → n' ≤ n + 6 → Ws (true, true) sc mL_law 1112 13189 k' n' 1769 [(0, .retAddr 100), (1, .ref 0), (2, .ref 53), (3, .ref 76), (4, .int (nI i))] [] σ' Q) : Ws (true, true) sc mL_law 1112 13189 k n 1650 [(0, .retAddr 100), (1, .ref 0), (2, .ref 53), (3, .ref 76), (4, .int (nI i))] [] σ Q := by
  have hi2 : sc.1 < 2147483648 := by omega
  refine r_aload_n rfl rfl ?_
  refine r_aload_nK rfl rfl (by decide) ?_
  refine r_iload rfl rfl ?_
  refine n_iconst 1 rfl ?_
  refine n_iadd rfl ?_
  refine r_sld (j := i + 1) rfl (by decide) (by omega) (by omega) ?_
  refine r_aload_n rfl rfl ?_
  obtain ⟨c, a', v, hc, hA', hCc, hMm⟩ := op_saveSnapshot (sc := sc) hA (sc.2 (i + 1))
  refine s_staWI [.ref 0, .int (sc.2 (i + 1)), .ref 76] [] rfl lkL_193 (hCc σ hI) rfl rfl (by omega) (by omega) ?_
  rintro _ σ1 ⟨rfl, hv1, hF1, hI1⟩
  have hM1 := MI9_fr hF1 hM
  refine r_istore (lv' := [(5, .int (nI c)), (0, .retAddr 100), (1, .ref 0), (2, .ref 53), (3, .ref 76), (4, .int (nI i))]) rfl (Nat.le_of_ble_eq_true rfl) rfl ?_
  refine r_aload_n rfl rfl ?_
  refine r_aload_nK rfl rfl (by decide) ?_
  refine r_iload rfl rfl ?_
  refine n_iconst 1 rfl ?_
  refine n_iadd rfl ?_
  refine r_sld (j := i + 1) rfl (by decide) (by omega) (by omega) ?_
  refine s_virI [.int (sc.2 (i + 1))] [] rfl lkL_195 rfl rfl rfl (hMm σ1 hM1) rfl rfl (by omega) (by omega) rfl ?_
  rintro v6 σ2 ⟨hv2, ht, hF2, hM2⟩
  have hI2 := CI9_fr hF2.D hI1
  refine r_istore (lv' := [(6, .int v6), (5, .int (nI c)), (0, .retAddr 100), (1, .ref 0), (2, .ref 53), (3, .ref 76), (4, .int (nI i))]) rfl (Nat.le_of_ble_eq_true rfl) rfl ?_
  refine r_aload_n rfl rfl ?_
  refine s_virI [] [] rfl lkL_100 rfl rfl rfl (k_thrown ht) rfl rfl (by omega) (by omega) rfl (rI (e1 := nI c) rfl ?_)
  refine r_iload rfl rfl ?_
  refine n_icmp_eq (tgt := 1686) rfl rfl (by omega) (by omega) (fun _ => ?_) (fun hq => absurd hq (fun z => z rfl))
  refine r_iload rfl rfl ?_
  refine n_if_ne (tgt := 1710) rfl rfl (by omega) (fun hc0 => ?_) (fun hc0 => ?_)
  · refine r_goto (tgt := 1769) rfl rfl ?_
    refine r_lv (lv' := [(0, .retAddr 100), (1, .ref 0), (2, .ref 53), (3, .ref 76), (4, .int (nI i))]) [2, 3, 4, 5, 6] rfl ?_
    exact K _ _ _ _ hA' hI2 hM2 (by omega) (by omega)
  · have h0 : c = 0 := by omega
    rw [hv2 h0]
    have hout : σ2.2 76 0 = _ := (show σ2.2 76 0 = σ1.2 76 0 from by rw [(hF2 76 (Or.inr rfl)).2]).trans (hv1 h0)
    by_cases h7 : v = 0
    · refine r_aload_n rfl rfl ?_
      refine n_iconst 0 rfl ?_
      refine s_lald (x := lN 0) rfl rfl (by decide) (hout.trans (if_pos h7)) ?_
      refine r_iload rfl rfl ?_
      refine r_if_eq (tgt := 1703) rfl rfl (fun _ => ?_) (fun hq => absurd hq (fun z => z h7))
      refine n_lconst0 rfl ?_
      refine n_lcmp_eq (tgt := 1710) rfl rfl rfl (by decide) (by decide) (fun _ => ?_) (fun hq => absurd hq (fun z => z rfl))
      refine r_goto (tgt := 1769) rfl rfl ?_
      refine r_lv (lv' := [(0, .retAddr 100), (1, .ref 0), (2, .ref 53), (3, .ref 76), (4, .int (nI i))]) [2, 3, 4, 5, 6] rfl ?_
      exact K _ _ _ _ hA' hI2 hM2 (by omega) (by omega)
    · refine r_aload_n rfl rfl ?_
      refine n_iconst 0 rfl ?_
      refine s_lald (x := lN 1) rfl rfl (by decide) (hout.trans (if_neg h7)) ?_
      refine r_iload rfl rfl ?_
      refine r_if_eq (tgt := 1703) rfl rfl (fun hq => absurd hq h7) (fun _ => ?_)
      refine n_lconst1 rfl ?_
      refine r_goto (tgt := 1704) rfl rfl ?_
      refine n_lcmp_eq (tgt := 1710) rfl rfl rfl (by decide) (by decide) (fun _ => ?_) (fun hq => absurd hq (fun z => z rfl))
      refine r_goto (tgt := 1769) rfl rfl ?_
      refine r_lv (lv' := [(0, .retAddr 100), (1, .ref 0), (2, .ref 53), (3, .ref 76), (4, .int (nI i))]) [2, 3, 4, 5, 6] rfl ?_
      exact K _ _ _ _ hA' hI2 hM2 (by omega) (by omega)

set_option maxRecDepth 100000 in
theorem law_restoreSnapshot {sc : SC} {σ : SS} {a : AB} {i k n : Nat} {Q : Out → SS → Prop} (hA : AV a) (hI : CI9 σ a) (hM : MI9 σ a) (hi : i + 6 ≤ sc.1) (hL : sc.1 ≤ 3072) (hk : k + 1 ≤ 1112) (hn : n + 6 ≤ 13189) (K : ∀ σ' a' k' n', AV a' → CI9 σ' a' → MI9 σ' a' → k' ≤ k + 1 → n' ≤ n + 6 → Ws (true, true) sc mL_law 1112 13189 k' n' 1769 [(0, .retAddr 100), (1, .ref 0), (2, .ref 53), (3, .ref 76), (4, .int (nI i))] [] σ' Q) : Ws (true, true) sc mL_law 1112 13189 k n 1713 [(0, .retAddr 100), (1, .ref 0), (2, .ref 53), (3, .ref 76), (4, .int (nI i))] [] σ Q := by
  have hi2 : sc.1 < 2147483648 := by omega
  refine r_aload_n rfl rfl ?_
  refine r_aload_nK rfl rfl (by decide) ?_
  refine r_iload rfl rfl ?_
  refine n_iconst 1 rfl ?_
  refine n_iadd rfl ?_
  refine r_sld (j := i + 1) rfl (by decide) (by omega) (by omega) ?_
  refine r_aload_n rfl rfl ?_
  obtain ⟨c, a', v, hc, hA', hCc, hMm⟩ := op_restoreSnapshot (sc := sc) hA (sc.2 (i + 1))
  refine s_staWI [.ref 0, .int (sc.2 (i + 1)), .ref 76] [] rfl lkL_196 (hCc σ hI) rfl rfl (by omega) (by omega) ?_
  rintro _ σ1 ⟨rfl, hv1, hF1, hI1⟩
  have hM1 := MI9_fr hF1 hM
  refine r_istore (lv' := [(5, .int (nI c)), (0, .retAddr 100), (1, .ref 0), (2, .ref 53), (3, .ref 76), (4, .int (nI i))]) rfl (Nat.le_of_ble_eq_true rfl) rfl ?_
  refine r_aload_n rfl rfl ?_
  refine r_aload_nK rfl rfl (by decide) ?_
  refine r_iload rfl rfl ?_
  refine n_iconst 1 rfl ?_
  refine n_iadd rfl ?_
  refine r_sld (j := i + 1) rfl (by decide) (by omega) (by omega) ?_
  refine s_virI [.int (sc.2 (i + 1))] [] rfl lkL_198 rfl rfl rfl (hMm σ1 hM1) rfl rfl (by omega) (by omega) rfl ?_
  rintro v6 σ2 ⟨hv2, ht, hF2, hM2⟩
  have hI2 := CI9_fr hF2.D hI1
  refine r_istore (lv' := [(6, .int v6), (5, .int (nI c)), (0, .retAddr 100), (1, .ref 0), (2, .ref 53), (3, .ref 76), (4, .int (nI i))]) rfl (Nat.le_of_ble_eq_true rfl) rfl ?_
  refine r_aload_n rfl rfl ?_
  refine s_virI [] [] rfl lkL_100 rfl rfl rfl (k_thrown ht) rfl rfl (by omega) (by omega) rfl (rI (e1 := nI c) rfl ?_)
  refine r_iload rfl rfl ?_
  refine n_icmp_eq (tgt := 1749) rfl rfl (by omega) (by omega) (fun _ => ?_) (fun hq => absurd hq (fun z => z rfl))
  refine r_iload rfl rfl ?_
  refine n_if_ne (tgt := 1766) rfl rfl (by omega) (fun hc0 => ?_) (fun hc0 => ?_)
  · refine r_goto (tgt := 1769) rfl rfl ?_
    refine r_lv (lv' := [(0, .retAddr 100), (1, .ref 0), (2, .ref 53), (3, .ref 76), (4, .int (nI i))]) [2, 3, 4, 5, 6] rfl ?_
    exact K _ _ _ _ hA' hI2 hM2 (by omega) (by omega)
  · have h0 : c = 0 := by omega
    rw [hv2 h0]
    have hout : σ2.2 76 0 = _ := (show σ2.2 76 0 = σ1.2 76 0 from by rw [(hF2 76 (Or.inr rfl)).2]).trans (hv1 h0)
    refine r_aload_n rfl rfl ?_
    refine n_iconst 0 rfl ?_
    refine s_lald (x := v.toInt64) rfl rfl (by decide) (hout) ?_
    refine r_iload rfl rfl ?_
    refine r_i2l rfl rfl ?_
    refine l_lcmp_same (tgt := 1766) rfl rfl rfl ?_
    refine r_goto (tgt := 1769) rfl rfl ?_
    refine r_lv (lv' := [(0, .retAddr 100), (1, .ref 0), (2, .ref 53), (3, .ref 76), (4, .int (nI i))]) [2, 3, 4, 5, 6] rfl ?_
    exact K _ _ _ _ hA' hI2 hM2 (by omega) (by omega)

