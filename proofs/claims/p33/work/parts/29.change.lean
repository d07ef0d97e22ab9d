theorem c_refuse {z : SZ} {sc : SC} {σ : SS} {q : Nat} {b : Bool} {a : AB} (hA : AV a) (hI : CI9 σ a) (hq : q < aD a 0 0) : Cs z sc mX9_refuse 0 0 [.ref 0, .int (nI q), .int (nI (tb b))] σ (RI fun v σ' => v = nI (aD a 4 q) ∧ FrM σ σ' ∧ CI9 σ' (nx a (up (aD a) 4 q (tb b)))) := by
  refine Cs.of gmX9_refuse (Nat.le_of_ble_eq_true rfl) ?_
  show Ws z sc mX9_refuse 0 0 0 0 0 [(0, .ref 0), (1, .int (nI q)), (2, .int (nI (tb b)))] [] (mz σ [] []) (RI fun v σ' => v = nI (aD a 4 q) ∧ FrM σ σ' ∧ CI9 σ' (nx a (up (aD a) 4 q (tb b))))
  have hV := hA.1
  have hC := vC hV
  have hS := hI.1.1.1
  have hE := hI.1.1.2
  have hA4 := vA hV q
  refine r_aload_n rfl rfl ?_
  refine r_iload_n rfl rfl ?_
  refine s_virV [.int (nI q)] [] rfl lkX9_153 rfl rfl rfl (c_reqPerson hE hV hq) rfl rfl (Nat.le_refl _) (Nat.le_refl _) rfl (rV ?_)
  refine r_aload_n rfl rfl ?_
  refine s_getR (r := 18) rfl flX9_26 rfl rfl ?_
  refine r_iload_n rfl rfl ?_
  refine s_virI [.int (nI q)] [] rfl lkX9_171 rfl rfl rfl (c_isRefusing_18 hS hV (by omega)) rfl rfl (Nat.le_refl _) (Nat.le_refl _) rfl (rI (e1 := nI (aD a 4 q)) rfl ?_)
  refine r_istore_n (lv' := [(3, .int (nI (aD a 4 q))), (0, .ref 0), (1, .int (nI q)), (2, .int (nI (tb b)))]) rfl rfl (Nat.le_of_ble_eq_true rfl) rfl ?_
  refine r_aload_n rfl rfl ?_
  refine s_getR (r := 50) rfl flX9_46 rfl rfl ?_
  refine r_aload_n rfl rfl ?_
  refine s_getR (r := 18) rfl flX9_26 rfl rfl ?_
  refine s_virV [.ref 18] [] rfl lkX9_333 rfl rfl rfl (c_remember hA.2.1 hI.1.2.1.1 hI.1.2.2.1 hS) rfl rfl (Nat.le_refl _) (Nat.le_refl _) rfl ?_
  rintro _ ⟨f51, f50, rfl, hm50a, hm51⟩
  refine m_mz (L' := [(50, f50), (51, f51)]) (M' := []) rfl rfl ?_
  have hm50 := And.intro hm50a.1 (hm50a.2.trans hI.1.2.1.2)
  refine r_aload_n rfl rfl ?_
  refine s_getR (r := 18) rfl flX9_26 rfl rfl ?_
  refine r_iload_n rfl rfl ?_
  refine r_iload_n rfl rfl ?_
  refine s_virV [.int (nI q), .int (nI (tb b))] [] rfl lkX9_319 rfl rfl rfl (c_putRefusing_18 hS (by omega)) rfl rfl (Nat.le_refl _) (Nat.le_refl _) rfl ?_
  rintro _ ⟨f19, rfl, h19⟩
  refine m_mz (L' := [(50, f50), (51, f51), (19, f19)]) (M' := []) rfl rfl ?_
  refine r_aload_n rfl rfl ?_
  refine s_getR (r := 20) rfl flX9_33 rfl rfl ?_
  refine r_aload_n rfl rfl ?_
  refine s_getR (r := 12) rfl flX9_19 rfl rfl ?_
  refine r_aload_n rfl rfl ?_
  refine s_getR (r := 18) rfl flX9_26 rfl rfl ?_
  have hV2 : Vd (up (aD a) 4 q (tb b)) := Vdup hV rfl ⟨fun z => absurd z (by decide), fun z => absurd z (by decide), fun _ => by have := tb_le b; omega, fun z => absurd z (by decide), fun z => absurd z (by decide), fun z => absurd z (by decide), fun z => absurd z (by decide), fun z => absurd z (by decide), fun z => absurd z (by decide)⟩
  have hSm : Sm (aD a) (up (aD a) 4 q (tb b)) := Smup rfl
  have hE2 := SmEE hSm hE
  refine s_virV [.ref 12, .ref 18] [] rfl lkX9_54 rfl rfl rfl (c_settle_A (d := up (aD a) 4 q (tb b)) h19 hE2 hV2) rfl rfl (Nat.le_refl _) (Nat.le_refl _) rfl ?_
  rintro _ ⟨g0, g1, g2, g3, g4, g5, g6, g7, g8, g9, g10, g11, g12, g13, rfl, hSE⟩
  refine m_mz (L' := [(50, f50), (51, f51), (19, f19), (30, g13), (32, g12), (33, g11), (31, g10), (20, g9), (29, g8), (28, g7), (26, g6), (27, g5), (23, g4), (22, g3), (24, g2), (25, g1), (21, g0)]) (M' := []) rfl rfl ?_
  refine r_iload_n rfl rfl ?_
  exact s_ret (st := []) rfl rfl (nar_1 (by omega)) (Nat.zero_le _) (Nat.zero_le _) (⟨_, rfl, rfl, FrM_mz rfl rfl, CM_nx hI.1 hSm h19 hE hm50 hm51 ⟨rfl, rfl, rfl, rfl, rfl⟩, hSE⟩)

theorem c_die {z : SZ} {sc : SC} {σ : SS} {q : Nat} {a : AB} (hA : AV a) (hI : CI9 σ a) (hq : q < aD a 0 0) : Cs z sc mX9_die 0 0 [.ref 0, .int (nI q)] σ (RI fun v σ' => v = nI (mk (he (up (aD a) 3 q 1)) 12) ∧ FrM σ σ' ∧ CI9 σ' (nx a (up (aD a) 3 q 1))) := by
  refine Cs.of gmX9_die (Nat.le_of_ble_eq_true rfl) ?_
  show Ws z sc mX9_die 0 0 0 0 0 [(0, .ref 0), (1, .int (nI q))] [] (mz σ [] []) (RI fun v σ' => v = nI (mk (he (up (aD a) 3 q 1)) 12) ∧ FrM σ σ' ∧ CI9 σ' (nx a (up (aD a) 3 q 1)))
  have hV := hA.1
  have hC := vC hV
  have hS := hI.1.1.1
  have hE := hI.1.1.2
  refine r_aload_n rfl rfl ?_
  refine r_iload_n rfl rfl ?_
  refine s_virV [.int (nI q)] [] rfl lkX9_153 rfl rfl rfl (c_reqPerson hE hV hq) rfl rfl (Nat.le_refl _) (Nat.le_refl _) rfl (rV ?_)
  refine r_aload_n rfl rfl ?_
  refine s_getR (r := 50) rfl flX9_46 rfl rfl ?_
  refine r_aload_n rfl rfl ?_
  refine s_getR (r := 18) rfl flX9_26 rfl rfl ?_
  refine s_virV [.ref 18] [] rfl lkX9_333 rfl rfl rfl (c_remember hA.2.1 hI.1.2.1.1 hI.1.2.2.1 hS) rfl rfl (Nat.le_refl _) (Nat.le_refl _) rfl ?_
  rintro _ ⟨f51, f50, rfl, hm50a, hm51⟩
  refine m_mz (L' := [(50, f50), (51, f51)]) (M' := []) rfl rfl ?_
  have hm50 := And.intro hm50a.1 (hm50a.2.trans hI.1.2.1.2)
  refine r_aload_n rfl rfl ?_
  refine s_getR (r := 18) rfl flX9_26 rfl rfl ?_
  refine r_iload_n rfl rfl ?_
  refine s_virV [.int (nI q)] [] rfl lkX9_336 rfl rfl rfl (c_putDead_18 hS (by omega)) rfl rfl (Nat.le_refl _) (Nat.le_refl _) rfl ?_
  rintro _ ⟨f19, rfl, h19⟩
  refine m_mz (L' := [(50, f50), (51, f51), (19, f19)]) (M' := []) rfl rfl ?_
  refine r_aload_n rfl rfl ?_
  refine s_getR (r := 20) rfl flX9_33 rfl rfl ?_
  refine r_aload_n rfl rfl ?_
  refine s_getR (r := 12) rfl flX9_19 rfl rfl ?_
  refine r_aload_n rfl rfl ?_
  refine s_getR (r := 18) rfl flX9_26 rfl rfl ?_
  have hV2 : Vd (up (aD a) 3 q 1) := Vdup hV rfl ⟨fun z => absurd z (by decide), fun _ => Nat.le_refl 1, fun z => absurd z (by decide), fun z => absurd z (by decide), fun z => absurd z (by decide), fun z => absurd z (by decide), fun z => absurd z (by decide), fun z => absurd z (by decide), fun z => absurd z (by decide)⟩
  have hSm : Sm (aD a) (up (aD a) 3 q 1) := Smup rfl
  have hE2 := SmEE hSm hE
  refine s_virV [.ref 12, .ref 18] [] rfl lkX9_54 rfl rfl rfl (c_settle_A (d := up (aD a) 3 q 1) h19 hE2 hV2) rfl rfl (Nat.le_refl _) (Nat.le_refl _) rfl ?_
  rintro _ ⟨g0, g1, g2, g3, g4, g5, g6, g7, g8, g9, g10, g11, g12, g13, rfl, hSE⟩
  refine m_mz (L' := [(50, f50), (51, f51), (19, f19), (30, g13), (32, g12), (33, g11), (31, g10), (20, g9), (29, g8), (28, g7), (26, g6), (27, g5), (23, g4), (22, g3), (24, g2), (25, g1), (21, g0)]) (M' := []) rfl rfl ?_
  obtain ⟨x1, x2, x3, x4, x5, x6, x7, x8, x9, x10, x11⟩ := id hSE
  refine r_aload_n rfl rfl ?_
  refine s_getR (r := 20) rfl flX9_33 rfl rfl ?_
  refine s_getR (r := 26) rfl flX9_261 rfl rfl ?_
  refine s_getI (x := nI (mk (he (up (aD a) 3 q 1)) 12)) rfl flX9_265 rfl rfl x4.1 ?_
  exact s_ret (st := []) rfl rfl rfl (Nat.zero_le _) (Nat.zero_le _) (⟨_, rfl, rfl, FrM_mz rfl rfl, CM_nx hI.1 hSm h19 hE hm50 hm51 ⟨rfl, rfl, rfl, rfl, rfl⟩, hSE⟩)

theorem c_setAge {z : SZ} {sc : SC} {σ : SS} {q v9 : Nat} {a : AB} (hA : AV a) (hI : CI9 σ a) (hq : q < aD a 0 0) (hv : v9 ≤ 120) : Cs z sc mX9_setAge 0 0 [.ref 0, .int (nI q), .int (nI v9)] σ (RI fun v σ' => v = nI (aD a 2 q) ∧ FrM σ σ' ∧ CI9 σ' (nx a (up (aD a) 2 q v9))) := by
  refine Cs.of gmX9_setAge (Nat.le_of_ble_eq_true rfl) ?_
  show Ws z sc mX9_setAge 0 0 0 0 0 [(0, .ref 0), (1, .int (nI q)), (2, .int (nI v9))] [] (mz σ [] []) (RI fun v σ' => v = nI (aD a 2 q) ∧ FrM σ σ' ∧ CI9 σ' (nx a (up (aD a) 2 q v9)))
  have hV := hA.1
  have hC := vC hV
  have hS := hI.1.1.1
  have hE := hI.1.1.2
  refine r_aload_n rfl rfl ?_
  refine r_iload_n rfl rfl ?_
  refine s_virV [.int (nI q)] [] rfl lkX9_153 rfl rfl rfl (c_reqPerson hE hV hq) rfl rfl (Nat.le_refl _) (Nat.le_refl _) rfl (rV ?_)
  refine r_iload_n rfl rfl ?_
  refine n_iconst 0 rfl ?_
  refine n_bipush 120 rfl (by decide) ?_
  refine s_staV [.int (nI v9), .int (nI 0), .int (nI 120)] [] rfl lkX9_254 (c_reqRange (by omega) hv (by decide)) rfl rfl (Nat.le_refl _) (Nat.le_refl _) rfl (rV ?_)
  refine r_aload_n rfl rfl ?_
  refine s_getR (r := 18) rfl flX9_26 rfl rfl ?_
  refine r_iload_n rfl rfl ?_
  refine s_virI [.int (nI q)] [] rfl lkX9_164 rfl rfl rfl (c_age_18 hS (by omega)) rfl rfl (Nat.le_refl _) (Nat.le_refl _) rfl (rI (e1 := nI (aD a 2 q)) rfl ?_)
  refine r_istore_n (lv' := [(3, .int (nI (aD a 2 q))), (0, .ref 0), (1, .int (nI q)), (2, .int (nI v9))]) rfl rfl (Nat.le_of_ble_eq_true rfl) rfl ?_
  refine r_aload_n rfl rfl ?_
  refine s_getR (r := 50) rfl flX9_46 rfl rfl ?_
  refine r_aload_n rfl rfl ?_
  refine s_getR (r := 18) rfl flX9_26 rfl rfl ?_
  refine s_virV [.ref 18] [] rfl lkX9_333 rfl rfl rfl (c_remember hA.2.1 hI.1.2.1.1 hI.1.2.2.1 hS) rfl rfl (Nat.le_refl _) (Nat.le_refl _) rfl ?_
  rintro _ ⟨f51, f50, rfl, hm50a, hm51⟩
  refine m_mz (L' := [(50, f50), (51, f51)]) (M' := []) rfl rfl ?_
  have hm50 := And.intro hm50a.1 (hm50a.2.trans hI.1.2.1.2)
  refine r_aload_n rfl rfl ?_
  refine s_getR (r := 18) rfl flX9_26 rfl rfl ?_
  refine r_iload_n rfl rfl ?_
  refine r_iload_n rfl rfl ?_
  refine s_virV [.int (nI q), .int (nI v9)] [] rfl lkX9_339 rfl rfl rfl (c_putAge_18 hS (by omega)) rfl rfl (Nat.le_refl _) (Nat.le_refl _) rfl ?_
  rintro _ ⟨f19, rfl, h19⟩
  refine m_mz (L' := [(50, f50), (51, f51), (19, f19)]) (M' := []) rfl rfl ?_
  refine r_aload_n rfl rfl ?_
  refine s_getR (r := 20) rfl flX9_33 rfl rfl ?_
  refine r_aload_n rfl rfl ?_
  refine s_getR (r := 12) rfl flX9_19 rfl rfl ?_
  refine r_aload_n rfl rfl ?_
  refine s_getR (r := 18) rfl flX9_26 rfl rfl ?_
  have hV2 : Vd (up (aD a) 2 q v9) := Vdup hV rfl ⟨fun _ => hv, fun z => absurd z (by decide), fun z => absurd z (by decide), fun z => absurd z (by decide), fun z => absurd z (by decide), fun z => absurd z (by decide), fun z => absurd z (by decide), fun z => absurd z (by decide), fun z => absurd z (by decide)⟩
  have hSm : Sm (aD a) (up (aD a) 2 q v9) := Smup rfl
  have hE2 := SmEE hSm hE
  refine s_virV [.ref 12, .ref 18] [] rfl lkX9_54 rfl rfl rfl (c_settle_A (d := up (aD a) 2 q v9) h19 hE2 hV2) rfl rfl (Nat.le_refl _) (Nat.le_refl _) rfl ?_
  rintro _ ⟨g0, g1, g2, g3, g4, g5, g6, g7, g8, g9, g10, g11, g12, g13, rfl, hSE⟩
  refine m_mz (L' := [(50, f50), (51, f51), (19, f19), (30, g13), (32, g12), (33, g11), (31, g10), (20, g9), (29, g8), (28, g7), (26, g6), (27, g5), (23, g4), (22, g3), (24, g2), (25, g1), (21, g0)]) (M' := []) rfl rfl ?_
  refine r_iload_n rfl rfl ?_
  exact s_ret (st := []) rfl rfl rfl (Nat.zero_le _) (Nat.zero_le _) (⟨_, rfl, rfl, FrM_mz rfl rfl, CM_nx hI.1 hSm h19 hE hm50 hm51 ⟨rfl, rfl, rfl, rfl, rfl⟩, hSE⟩)

theorem c_addGift {z : SZ} {sc : SC} {σ : SS} {q v9 : Nat} {a : AB} (hA : AV a) (hI : CI9 σ a) (hq : q < aD a 0 0) (hv : v9 ≤ 9999999) (hg : aD a 0 3 < 8) : Cs z sc mX9_addGift 0 0 [.ref 0, .int (nI q), .int (nI v9)] σ (RI fun v σ' => v = (if he (up (up (up (aD a) 9 (aD a 0 3) q) 10 (aD a 0 3) v9) 0 3 (aD a 0 3 + 1)) q = true then sv (up (up (up (aD a) 9 (aD a 0 3) q) 10 (aD a 0 3) v9) 0 3 (aD a 0 3 + 1)) q else -1) ∧ FrM σ σ' ∧ CI9 σ' (nx a (up (up (up (aD a) 9 (aD a 0 3) q) 10 (aD a 0 3) v9) 0 3 (aD a 0 3 + 1)))) := by
  refine Cs.of gmX9_addGift (Nat.le_of_ble_eq_true rfl) ?_
  show Ws z sc mX9_addGift 0 0 0 0 0 [(0, .ref 0), (1, .int (nI q)), (2, .int (nI v9))] [] (mz σ [] []) (RI fun v σ' => v = (if he (up (up (up (aD a) 9 (aD a 0 3) q) 10 (aD a 0 3) v9) 0 3 (aD a 0 3 + 1)) q = true then sv (up (up (up (aD a) 9 (aD a 0 3) q) 10 (aD a 0 3) v9) 0 3 (aD a 0 3 + 1)) q else -1) ∧ FrM σ σ' ∧ CI9 σ' (nx a (up (up (up (aD a) 9 (aD a 0 3) q) 10 (aD a 0 3) v9) 0 3 (aD a 0 3 + 1))))
  have hV := hA.1
  have hC := vC hV
  have hS := hI.1.1.1
  have hE := hI.1.1.2
  refine r_aload_n rfl rfl ?_
  refine r_iload_n rfl rfl ?_
  refine s_virV [.int (nI q)] [] rfl lkX9_153 rfl rfl rfl (c_reqPerson hE hV hq) rfl rfl (Nat.le_refl _) (Nat.le_refl _) rfl (rV ?_)
  refine r_iload_n rfl rfl ?_
  refine n_iconst 0 rfl ?_
  refine r_ldcw (v := nI 9999999) rfl kcX9_315 ?_
  refine s_staV [.int (nI v9), .int (nI 0), .int (nI 9999999)] [] rfl lkX9_254 (c_reqRange (by omega) hv (by decide)) rfl rfl (Nat.le_refl _) (Nat.le_refl _) rfl (rV ?_)
  refine r_aload_n rfl rfl ?_
  refine s_getR (r := 18) rfl flX9_26 rfl rfl ?_
  refine s_virI [] [] rfl lkX9_120 rfl rfl rfl (c_giftCount_18 hS) rfl rfl (Nat.le_refl _) (Nat.le_refl _) rfl (rI (e1 := nI (aD a 0 3)) rfl ?_)
  refine n_bipush 8 rfl (by decide) ?_
  refine n_icmp_lt (tgt := 36) rfl rfl (by omega) (by omega) (fun _ => ?_) (fun hq => absurd hq (by omega))
  refine r_aload_n rfl rfl ?_
  refine s_getR (r := 50) rfl flX9_46 rfl rfl ?_
  refine r_aload_n rfl rfl ?_
  refine s_getR (r := 18) rfl flX9_26 rfl rfl ?_
  refine s_virV [.ref 18] [] rfl lkX9_333 rfl rfl rfl (c_remember hA.2.1 hI.1.2.1.1 hI.1.2.2.1 hS) rfl rfl (Nat.le_refl _) (Nat.le_refl _) rfl ?_
  rintro _ ⟨f51, f50, rfl, hm50a, hm51⟩
  refine m_mz (L' := [(50, f50), (51, f51)]) (M' := []) rfl rfl ?_
  have hm50 := And.intro hm50a.1 (hm50a.2.trans hI.1.2.1.2)
  refine r_aload_n rfl rfl ?_
  refine s_getR (r := 18) rfl flX9_26 rfl rfl ?_
  refine r_iload_n rfl rfl ?_
  refine r_iload_n rfl rfl ?_
  refine s_virV [.int (nI q), .int (nI v9)] [] rfl lkX9_346 rfl rfl rfl (c_putGift_18 hS hg) rfl rfl (Nat.le_refl _) (Nat.le_refl _) rfl ?_
  rintro _ ⟨f19, rfl, h19⟩
  refine m_mz (L' := [(50, f50), (51, f51), (19, f19)]) (M' := []) rfl rfl ?_
  refine r_aload_n rfl rfl ?_
  refine s_getR (r := 20) rfl flX9_33 rfl rfl ?_
  refine r_aload_n rfl rfl ?_
  refine s_getR (r := 12) rfl flX9_19 rfl rfl ?_
  refine r_aload_n rfl rfl ?_
  refine s_getR (r := 18) rfl flX9_26 rfl rfl ?_
  have hV2 : Vd (up (up (up (aD a) 9 (aD a 0 3) q) 10 (aD a 0 3) v9) 0 3 (aD a 0 3 + 1)) := Vdup (Vdup (Vdup hV rfl ⟨fun z => absurd z (by decide), fun z => absurd z (by decide), fun z => absurd z (by decide), fun z => absurd z (by decide), fun z => absurd z (by decide), fun z => absurd z (by decide), fun _ => by omega, fun z => absurd z (by decide), fun z => absurd z (by decide)⟩) rfl ⟨fun z => absurd z (by decide), fun z => absurd z (by decide), fun z => absurd z (by decide), fun z => absurd z (by decide), fun z => absurd z (by decide), fun z => absurd z (by decide), fun z => absurd z (by decide), fun _ => hv, fun z => absurd z (by decide)⟩) rfl ⟨fun z => absurd z (by decide), fun z => absurd z (by decide), fun z => absurd z (by decide), fun z => absurd z (by decide), fun z => absurd z (by decide), fun z => absurd z (by decide), fun z => absurd z (by decide), fun z => absurd z (by decide), fun _ => ⟨by omega, by omega, by omega⟩⟩
  have hSm : Sm (aD a) (up (up (up (aD a) 9 (aD a 0 3) q) 10 (aD a 0 3) v9) 0 3 (aD a 0 3 + 1)) := (Smup rfl).tr ((Smup rfl).tr (Smup rfl))
  have hE2 := SmEE hSm hE
  refine s_virV [.ref 12, .ref 18] [] rfl lkX9_54 rfl rfl rfl (c_settle_A (d := up (up (up (aD a) 9 (aD a 0 3) q) 10 (aD a 0 3) v9) 0 3 (aD a 0 3 + 1)) h19 hE2 hV2) rfl rfl (Nat.le_refl _) (Nat.le_refl _) rfl ?_
  rintro _ ⟨g0, g1, g2, g3, g4, g5, g6, g7, g8, g9, g10, g11, g12, g13, rfl, hSE⟩
  refine m_mz (L' := [(50, f50), (51, f51), (19, f19), (30, g13), (32, g12), (33, g11), (31, g10), (20, g9), (29, g8), (28, g7), (26, g6), (27, g5), (23, g4), (22, g3), (24, g2), (25, g1), (21, g0)]) (M' := []) rfl rfl ?_
  obtain ⟨x1, x2, x3, x4, x5, x6, x7, x8, x9, x10, x11⟩ := id hSE
  generalize hee : up (up (up (aD a) 9 (aD a 0 3) q) 10 (aD a 0 3) v9) 0 3 (aD a 0 3 + 1) = e9 at *
  have hmh := mk_lt12 (he e9) (Nat.le_refl 12)
  have ht := tb_le (he e9 q)
  have hwq : w9 e9 q ≤ 4096 := Nat.le_trans lo_lw (wt_le hV2 q)
  refine r_aload_n rfl rfl ?_
  refine s_getR (r := 20) rfl flX9_33 rfl rfl ?_
  refine s_getR (r := 26) rfl flX9_261 rfl rfl ?_
  refine s_getI (x := nI (mk (he e9) 12)) rfl flX9_265 rfl rfl x4.1 ?_
  refine r_iload_n rfl rfl ?_
  refine s_staI [.int (nI (mk (he e9) 12)), .int (nI q)] [] rfl lkX9_282 (c_hasBit hmh (by omega)) rfl rfl (Nat.le_refl _) (Nat.le_refl _) rfl (rI (e1 := nI (tb (he e9 q))) (by rw [mk_bit, decide_eq_true (by omega : q < 12), Bool.true_and]) ?_)
  suffices K : Ws z sc mX9_addGift 0 0 0 0 103 [(0, .ref 0), (1, .int (nI q)), (2, .int (nI v9))] [.int (if he e9 q = true then sv e9 q else -1)] (mz σ [(50, f50), (51, f51), (19, f19), (30, g13), (32, g12), (33, g11), (31, g10), (20, g9), (29, g8), (28, g7), (26, g6), (27, g5), (23, g4), (22, g3), (24, g2), (25, g1), (21, g0)] []) (RI fun v σ' => v = (if he e9 q = true then sv e9 q else -1) ∧ FrM σ σ' ∧ CI9 σ' (nx a e9)) by
    refine n_if_eq (tgt := 102) rfl rfl (by omega) (fun h => ?_) (fun h => ?_)
    · refine n_m1 rfl ?_
      exact r_top (by rw [if_neg (by rw [tb_z h]; decide)]) K
    · refine r_aload_n rfl rfl ?_
      refine s_getR (r := 20) rfl flX9_33 rfl rfl ?_
      refine s_getR (r := 30) rfl flX9_270 rfl rfl ?_
      refine r_iload_n rfl rfl ?_
      refine s_virI [.int (nI q)] [] rfl lkX9_304 rfl rfl rfl (c_fromFund_A (by omega) (x9 q (by omega)) (by omega) (x10 q (by omega)) (x8 q (by omega))) rfl rfl (Nat.le_refl _) (Nat.le_refl _) rfl (rI (e1 := sv e9 q) rfl ?_)
      refine r_goto (tgt := 103) rfl rfl ?_
      exact r_top (by rw [if_pos (tb_ne h)]) K
  exact s_ret (st := []) rfl rfl rfl (Nat.zero_le _) (Nat.zero_le _) (⟨_, rfl, rfl, FrM_mz rfl rfl, CM_nx hI.1 hSm h19 hE hm50 hm51 ⟨rfl, rfl, rfl, rfl, rfl⟩, hSE⟩)

theorem c_setValue {z : SZ} {sc : SC} {σ : SS} {q v9 : Nat} {a : AB} (hA : AV a) (hI : CI9 σ a) (hq : q < aD a 0 1) (hv : v9 ≤ 9999999) : Cs z sc mX9_setValue 0 0 [.ref 0, .int (nI q), .int (nI v9)] σ (RI fun v σ' => v = nI (nts (up (aD a) 5 q v9)) ∧ FrM σ σ' ∧ CI9 σ' (nx a (up (aD a) 5 q v9))) := by
  refine Cs.of gmX9_setValue (Nat.le_of_ble_eq_true rfl) ?_
  show Ws z sc mX9_setValue 0 0 0 0 0 [(0, .ref 0), (1, .int (nI q)), (2, .int (nI v9))] [] (mz σ [] []) (RI fun v σ' => v = nI (nts (up (aD a) 5 q v9)) ∧ FrM σ σ' ∧ CI9 σ' (nx a (up (aD a) 5 q v9)))
  have hV := hA.1
  have hC := vC hV
  have hS := hI.1.1.1
  have hE := hI.1.1.2
  refine r_aload_n rfl rfl ?_
  refine r_iload_n rfl rfl ?_
  refine s_virV [.int (nI q)] [] rfl lkX9_180 rfl rfl rfl (c_reqAsset hE hV hq) rfl rfl (Nat.le_refl _) (Nat.le_refl _) rfl (rV ?_)
  refine r_iload_n rfl rfl ?_
  refine n_iconst 0 rfl ?_
  refine r_ldcw (v := nI 9999999) rfl kcX9_315 ?_
  refine s_staV [.int (nI v9), .int (nI 0), .int (nI 9999999)] [] rfl lkX9_254 (c_reqRange (by omega) hv (by decide)) rfl rfl (Nat.le_refl _) (Nat.le_refl _) rfl (rV ?_)
  refine r_aload_n rfl rfl ?_
  refine s_getR (r := 50) rfl flX9_46 rfl rfl ?_
  refine r_aload_n rfl rfl ?_
  refine s_getR (r := 18) rfl flX9_26 rfl rfl ?_
  refine s_virV [.ref 18] [] rfl lkX9_333 rfl rfl rfl (c_remember hA.2.1 hI.1.2.1.1 hI.1.2.2.1 hS) rfl rfl (Nat.le_refl _) (Nat.le_refl _) rfl ?_
  rintro _ ⟨f51, f50, rfl, hm50a, hm51⟩
  refine m_mz (L' := [(50, f50), (51, f51)]) (M' := []) rfl rfl ?_
  have hm50 := And.intro hm50a.1 (hm50a.2.trans hI.1.2.1.2)
  refine r_aload_n rfl rfl ?_
  refine s_getR (r := 18) rfl flX9_26 rfl rfl ?_
  refine r_iload_n rfl rfl ?_
  refine r_iload_n rfl rfl ?_
  refine s_virV [.int (nI q), .int (nI v9)] [] rfl lkX9_354 rfl rfl rfl (c_putValue_18 hS (by omega)) rfl rfl (Nat.le_refl _) (Nat.le_refl _) rfl ?_
  rintro _ ⟨f19, rfl, h19⟩
  refine m_mz (L' := [(50, f50), (51, f51), (19, f19)]) (M' := []) rfl rfl ?_
  refine r_aload_n rfl rfl ?_
  refine s_getR (r := 20) rfl flX9_33 rfl rfl ?_
  refine r_aload_n rfl rfl ?_
  refine s_getR (r := 12) rfl flX9_19 rfl rfl ?_
  refine r_aload_n rfl rfl ?_
  refine s_getR (r := 18) rfl flX9_26 rfl rfl ?_
  have hV2 : Vd (up (aD a) 5 q v9) := Vdup hV rfl ⟨fun z => absurd z (by decide), fun z => absurd z (by decide), fun z => absurd z (by decide), fun _ => hv, fun z => absurd z (by decide), fun z => absurd z (by decide), fun z => absurd z (by decide), fun z => absurd z (by decide), fun z => absurd z (by decide)⟩
  have hSm : Sm (aD a) (up (aD a) 5 q v9) := Smup rfl
  have hE2 := SmEE hSm hE
  refine s_virV [.ref 12, .ref 18] [] rfl lkX9_54 rfl rfl rfl (c_settle_A (d := up (aD a) 5 q v9) h19 hE2 hV2) rfl rfl (Nat.le_refl _) (Nat.le_refl _) rfl ?_
  rintro _ ⟨g0, g1, g2, g3, g4, g5, g6, g7, g8, g9, g10, g11, g12, g13, rfl, hSE⟩
  refine m_mz (L' := [(50, f50), (51, f51), (19, f19), (30, g13), (32, g12), (33, g11), (31, g10), (20, g9), (29, g8), (28, g7), (26, g6), (27, g5), (23, g4), (22, g3), (24, g2), (25, g1), (21, g0)]) (M' := []) rfl rfl ?_
  obtain ⟨x1, x2, x3, x4, x5, x6, x7, x8, x9, x10, x11⟩ := id hSE
  refine r_aload_n rfl rfl ?_
  refine s_getR (r := 20) rfl flX9_33 rfl rfl ?_
  refine s_getR (r := 21) rfl flX9_203 rfl rfl ?_
  refine s_getI (x := nI (nts (up (aD a) 5 q v9))) rfl flX9_224 rfl rfl x1.1 ?_
  exact s_ret (st := []) rfl rfl rfl (Nat.zero_le _) (Nat.zero_le _) (⟨_, rfl, rfl, FrM_mz rfl rfl, CM_nx hI.1 hSm h19 hE hm50 hm51 ⟨rfl, rfl, rfl, rfl, rfl⟩, hSE⟩)

theorem c_setAccrue {z : SZ} {sc : SC} {σ : SS} {b : Bool} {a : AB} (hA : AV a) (hI : CI9 σ a)  : Cs z sc mX9_setAccrue 0 0 [.ref 0, .int (nI (tb b))] σ (RI fun v σ' => v = nI (mk (he (up (aD a) 0 9 (tb b))) 12) ∧ FrM σ σ' ∧ CI9 σ' (nx a (up (aD a) 0 9 (tb b)))) := by
  refine Cs.of gmX9_setAccrue (Nat.le_of_ble_eq_true rfl) ?_
  show Ws z sc mX9_setAccrue 0 0 0 0 0 [(0, .ref 0), (1, .int (nI (tb b)))] [] (mz σ [] []) (RI fun v σ' => v = nI (mk (he (up (aD a) 0 9 (tb b))) 12) ∧ FrM σ σ' ∧ CI9 σ' (nx a (up (aD a) 0 9 (tb b))))
  have hV := hA.1
  have hC := vC hV
  have hS := hI.1.1.1
  have hE := hI.1.1.2
  refine r_aload_n rfl rfl ?_
  refine s_getR (r := 50) rfl flX9_46 rfl rfl ?_
  refine r_aload_n rfl rfl ?_
  refine s_getR (r := 18) rfl flX9_26 rfl rfl ?_
  refine s_virV [.ref 18] [] rfl lkX9_333 rfl rfl rfl (c_remember hA.2.1 hI.1.2.1.1 hI.1.2.2.1 hS) rfl rfl (Nat.le_refl _) (Nat.le_refl _) rfl ?_
  rintro _ ⟨f51, f50, rfl, hm50a, hm51⟩
  refine m_mz (L' := [(50, f50), (51, f51)]) (M' := []) rfl rfl ?_
  have hm50 := And.intro hm50a.1 (hm50a.2.trans hI.1.2.1.2)
  refine r_aload_n rfl rfl ?_
  refine s_getR (r := 18) rfl flX9_26 rfl rfl ?_
  refine r_iload_n rfl rfl ?_
  refine s_virV [.int (nI (tb b))] [] rfl lkX9_357 rfl rfl rfl (c_putAccrual_18 hS) rfl rfl (Nat.le_refl _) (Nat.le_refl _) rfl ?_
  rintro _ ⟨f19, rfl, h19⟩
  refine m_mz (L' := [(50, f50), (51, f51), (19, f19)]) (M' := []) rfl rfl ?_
  refine r_aload_n rfl rfl ?_
  refine s_getR (r := 20) rfl flX9_33 rfl rfl ?_
  refine r_aload_n rfl rfl ?_
  refine s_getR (r := 12) rfl flX9_19 rfl rfl ?_
  refine r_aload_n rfl rfl ?_
  refine s_getR (r := 18) rfl flX9_26 rfl rfl ?_
  have hV2 : Vd (up (aD a) 0 9 (tb b)) := Vdup hV rfl ⟨fun z => absurd z (by decide), fun z => absurd z (by decide), fun z => absurd z (by decide), fun z => absurd z (by decide), fun z => absurd z (by decide), fun z => absurd z (by decide), fun z => absurd z (by decide), fun z => absurd z (by decide), fun _ => ⟨fun _ => by have := tb_le b; omega, fun z => absurd z (by decide), fun z => absurd z (by decide)⟩⟩
  have hSm : Sm (aD a) (up (aD a) 0 9 (tb b)) := Smup rfl
  have hE2 := SmEE hSm hE
  refine s_virV [.ref 12, .ref 18] [] rfl lkX9_54 rfl rfl rfl (c_settle_A (d := up (aD a) 0 9 (tb b)) h19 hE2 hV2) rfl rfl (Nat.le_refl _) (Nat.le_refl _) rfl ?_
  rintro _ ⟨g0, g1, g2, g3, g4, g5, g6, g7, g8, g9, g10, g11, g12, g13, rfl, hSE⟩
  refine m_mz (L' := [(50, f50), (51, f51), (19, f19), (30, g13), (32, g12), (33, g11), (31, g10), (20, g9), (29, g8), (28, g7), (26, g6), (27, g5), (23, g4), (22, g3), (24, g2), (25, g1), (21, g0)]) (M' := []) rfl rfl ?_
  obtain ⟨x1, x2, x3, x4, x5, x6, x7, x8, x9, x10, x11⟩ := id hSE
  refine r_aload_n rfl rfl ?_
  refine s_getR (r := 20) rfl flX9_33 rfl rfl ?_
  refine s_getR (r := 26) rfl flX9_261 rfl rfl ?_
  refine s_getI (x := nI (mk (he (up (aD a) 0 9 (tb b))) 12)) rfl flX9_265 rfl rfl x4.1 ?_
  exact s_ret (st := []) rfl rfl rfl (Nat.zero_le _) (Nat.zero_le _) (⟨_, rfl, rfl, FrM_mz rfl rfl, CM_nx hI.1 hSm h19 hE hm50 hm51 ⟨rfl, rfl, rfl, rfl, rfl⟩, hSE⟩)

