theorem MI9_nx {σ σ' : SS} {a : AB} {e : D} (hI : MI9 σ a) (hSm : Sm (aD a) e) (h54 : MR (σ'.1 54) e) (h53 : σ'.1 53 32 = nI (pu (aU a) (aS a) (aD a)).1 ∧ σ'.1 53 6 = σ.1 53 6 ∧ σ'.1 53 14 = σ.1 53 14) (h73 : ∀ i, i < (pu (aU a) (aS a) (aD a)).1 → ∀ j, j < 122 → σ'.1 73 (122 * i + j) = mR ((pu (aU a) (aS a) (aD a)).2 i) j) (hf : σ'.1 75 = σ.1 75 ∧ σ'.1 74 = σ.1 74 ∧ σ'.1 58 = σ.1 58 ∧ σ'.2 56 = σ.2 56) : MI9 σ' (nx a e) := by
  obtain ⟨_, c2, _, c4, c5, c6, c7⟩ := hI
  obtain ⟨f1, f2, f3, f4⟩ := hf
  refine ⟨h54, ⟨h53.1, h53.2.1.trans c2.2.1, h53.2.2.trans c2.2.2⟩, h73, ?_, ?_, ?_, ?_⟩
  · rw [f1]; exact c4
  · rw [f2]; exact c5
  · rw [f3]; exact c6
  · rw [f4]
    intro p hp
    have hp2 : p < e 0 0 := hp
    rw [hSm.1.1] at hp2
    exact c7 p hp2
theorem k_shareOf {l9 : Bool} {sc : SC} {σ : SS} {d : D} {q : Nat} (hV : Vd d) (hM : MR (σ.1 54) d) (hq : q < d 0 0) : Cs (true, l9) sc mX10_shareOf 0 0 [.ref 53, .int (nI q)] σ (RI fun v σ' => ∃ g0 g1 g2 g3 g4 g5 g6 g7 g8 g9 g10 g11 l0 l1 l2, v = (if he d q = true then sv d q else -1) ∧ σ' = mz σ [(67, g11), (72, g10), (71, g9), (70, g8), (65, g7), (68, g6), (66, g5), (63, g4), (64, g3), (62, g2), (61, g1), (60, g0)] [(53, l2), (69, l1), (59, l0)]) := by
  refine Cs.of gmX10_shareOf (Nat.le_of_ble_eq_true rfl) ?_
  show Ws (true, l9) sc mX10_shareOf 0 0 0 0 0 [(0, .ref 53), (1, .int (nI q))] [] (mz σ [] []) (RI fun v σ' => ∃ g0 g1 g2 g3 g4 g5 g6 g7 g8 g9 g10 g11 l0 l1 l2, v = (if he d q = true then sv d q else -1) ∧ σ' = mz σ [(67, g11), (72, g10), (71, g9), (70, g8), (65, g7), (68, g6), (66, g5), (63, g4), (64, g3), (62, g2), (61, g1), (60, g0)] [(53, l2), (69, l1), (59, l0)])
  have hC := vC hV
  have ht := tb_le (he d q)
  refine r_aload_n rfl rfl ?_
  refine s_virV [] [] rfl lkX10_323 rfl rfl rfl (c_settles (d := d) hM hV) rfl rfl (Nat.le_refl _) (Nat.le_refl _) rfl ?_
  rintro _ ⟨g0, g1, g2, g3, g4, g5, g6, g7, g8, g9, g10, g11, l0, l1, l2, rfl, hMS, h12⟩
  refine m_mz (L' := [(67, g11), (72, g10), (71, g9), (70, g8), (65, g7), (68, g6), (66, g5), (63, g4), (64, g3), (62, g2), (61, g1), (60, g0)]) (M' := [(53, l2), (69, l1), (59, l0)]) rfl rfl ?_
  have hX : MSE g3 g2 g4 g7 g5 g11 g6 g8 g9 g10 l1 l2 (d) := hMS
  obtain ⟨x1, x2, x3, x4, x5, x6, x7, x8, x9, x10, x11, x12⟩ := hX
  refine r_aload_n rfl rfl ?_
  refine s_getR (r := 66) rfl flX10_53 rfl rfl ?_
  refine r_iload_n rfl rfl ?_
  refine s_zald (x := nI (tb (he d q))) rfl rfl (by omega) (x5 q (by omega)) ?_
  suffices K : Ws (true, l9) sc mX10_shareOf 0 0 0 0 23 [(0, .ref 53), (1, .int (nI q))] [.int (if he d q = true then sv d q else -1)] (mz σ [(67, g11), (72, g10), (71, g9), (70, g8), (65, g7), (68, g6), (66, g5), (63, g4), (64, g3), (62, g2), (61, g1), (60, g0)] [(53, l2), (69, l1), (59, l0)]) (RI fun v σ' => ∃ g0 g1 g2 g3 g4 g5 g6 g7 g8 g9 g10 g11 l0 l1 l2, v = (if he d q = true then sv d q else -1) ∧ σ' = mz σ [(67, g11), (72, g10), (71, g9), (70, g8), (65, g7), (68, g6), (66, g5), (63, g4), (64, g3), (62, g2), (61, g1), (60, g0)] [(53, l2), (69, l1), (59, l0)]) by
    refine n_if_eq (tgt := 22) rfl rfl (by omega) (fun h1 => ?_) (fun h1 => ?_)
    · refine n_m1 rfl ?_
      exact r_top (by rw [if_neg (by rw [tb_z h1]; decide)]) K
    · refine r_aload_n rfl rfl ?_
      refine s_getR (r := 70) rfl flX10_65 rfl rfl ?_
      refine r_iload_n rfl rfl ?_
      refine s_iald (x := sv d q) rfl rfl (by omega) (x8 q (by omega)) ?_
      refine r_goto (tgt := 23) rfl rfl ?_
      exact r_top (by rw [if_pos (tb_ne h1)]) K
  exact s_ret (st := []) rfl rfl rfl (Nat.zero_le _) (Nat.zero_le _) (⟨_, rfl, g0, g1, g2, g3, g4, g5, g6, g7, g8, g9, g10, g11, l0, l1, l2, rfl, rfl⟩)

theorem k_refuse {l9 : Bool} {sc : SC} {σ : SS} {q : Nat} {b : Bool} {a : AB} (hA : AV a) (hI : MI9 σ a) (hq : q < aD a 0 0) : Cs (true, l9) sc mX10_refuse 0 0 [.ref 53, .int (nI q), .int (nI (tb b))] σ (QM σ (nx a (up (aD a) 4 q (tb b))) (nI (aD a 4 q)) 0) := by
  refine Cs.of gmX10_refuse (Nat.le_of_ble_eq_true rfl) ?_
  show Ws (true, l9) sc mX10_refuse 0 0 0 0 0 [(0, .ref 53), (1, .int (nI q)), (2, .int (nI (tb b)))] [] (mz σ [] []) (QM σ (nx a (up (aD a) 4 q (tb b))) (nI (aD a 4 q)) 0)
  have hV := hA.1
  have hC := vC hV
  have hM := hI.1
  have hA4 := vA hV q
  have hbb := tb_le b
  refine r_aload_n rfl rfl ?_
  refine r_iload_n rfl rfl ?_
  refine s_virI [.int (nI q)] [] rfl lkX10_249 rfl rfl rfl (k_noPerson_in (hM := hI.1) hV hq) rfl rfl (Nat.le_refl _) (Nat.le_refl _) rfl (rI (e1 := nI 0) rfl ?_)
  refine m_mz (L' := [(53, (aup (σ.1 53) 0 (nI 0)))]) (M' := []) rfl rfl ?_
  refine n_if_eq (tgt := 10) rfl rfl (by decide) (fun _ => ?_) (fun hq => absurd hq (by decide))
  refine r_aload_n rfl rfl ?_
  refine s_virV [] [] rfl lkX10_337 rfl rfl rfl (k_keeps hM hA.2.1 hI.2.1.1 hI.2.2.1) rfl rfl (Nat.le_refl _) (Nat.le_refl _) rfl ?_
  rintro _ ⟨f73, f53, rfl, hk53, hk73⟩
  refine m_mz (L' := [(53, f53), (73, f73)]) (M' := []) rfl rfl ?_
  refine r_aload_n rfl rfl ?_
  refine r_iload_n rfl rfl ?_
  refine n_iconst 3 rfl ?_
  refine s_virI [.int (nI q), .int (nI 3)] [] rfl lkX10_245 rfl rfl rfl (c_of (x := nI (aD a 4 q)) (by omega) (by omega) (M3 hM (by omega))) rfl rfl (Nat.le_refl _) (Nat.le_refl _) rfl (rI (e1 := nI (aD a 4 q)) rfl ?_)
  refine n_iconst 1 rfl ?_
  suffices K : Ws (true, l9) sc mX10_refuse 0 0 0 0 29 [(0, .ref 53), (1, .int (nI q)), (2, .int (nI (tb b)))] [.int (nI (aD a 4 q))] (mz σ [(53, f53), (73, f73)] []) (QM σ (nx a (up (aD a) 4 q (tb b))) (nI (aD a 4 q)) 0) by
    refine n_icmp_ne (tgt := 28) rfl rfl (by omega) (by omega) (fun h1 => ?_) (fun h1 => ?_)
    · refine n_iconst 0 rfl ?_
      exact r_top (by rw [show aD a 4 q = 0 by omega]) K
    · refine n_iconst 1 rfl ?_
      refine r_goto (tgt := 29) rfl rfl ?_
      exact r_top (by rw [h1]) K
  refine r_istore_n (lv' := [(3, .int (nI (aD a 4 q))), (0, .ref 53), (1, .int (nI q)), (2, .int (nI (tb b)))]) rfl rfl (Nat.le_of_ble_eq_true rfl) rfl ?_
  refine r_aload_n rfl rfl ?_
  refine s_getR (r := 54) rfl flX10_7 rfl rfl ?_
  refine n_bipush 10 rfl (by decide) ?_
  refine n_iconst 4 rfl ?_
  refine r_iload_n rfl rfl ?_
  refine n_imul rfl ?_
  refine n_iadd rfl ?_
  refine n_iconst 3 rfl ?_
  refine n_iadd rfl ?_
  refine r_iload_n rfl rfl ?_
  suffices K : Ws (true, l9) sc mX10_refuse 0 0 0 0 51 [(3, .int (nI (aD a 4 q))), (0, .ref 53), (1, .int (nI q)), (2, .int (nI (tb b)))] [.int (nI (tb b)), .int (nI ((10 + (4 * q)) + 3)), .ref 54] (mz σ [(53, f53), (73, f73)] []) (QM σ (nx a (up (aD a) 4 q (tb b))) (nI (aD a 4 q)) 0) by
    refine n_if_eq (tgt := 50) rfl rfl (by omega) (fun h2 => ?_) (fun h2 => ?_)
    · refine n_iconst 0 rfl ?_
      exact r_top (by rw [h2]) K
    · refine n_iconst 1 rfl ?_
      refine r_goto (tgt := 51) rfl rfl ?_
      exact r_top (by rw [tb_ne h2]; rfl) K
  refine m_iast (L' := [(53, f53), (73, f73), (54, (aup (σ.1 54) ((10 + (4 * q)) + 3) (nI (tb b))))]) rfl rfl (by omega) rfl ?_
  refine r_iload_n rfl rfl ?_
  exact s_ret (st := []) rfl rfl (nar_1 (by omega)) (Nat.zero_le _) (Nat.zero_le _) (⟨_, rfl, rfl, hk53.2 0 (by decide), FrC_mz rfl rfl, MI9_nx hI (Smup rfl) (MRup hM (by omega) (mPp (by omega) (by decide)) rfl) ⟨hk53.1, hk53.2 6 (by decide), hk53.2 14 (by decide)⟩ hk73 ⟨rfl, rfl, rfl, rfl⟩⟩)

theorem k_die {l9 : Bool} {sc : SC} {σ : SS} {q : Nat} {a : AB} (hA : AV a) (hI : MI9 σ a) (hq : q < aD a 0 0) : Cs (true, l9) sc mX10_die 0 0 [.ref 53, .int (nI q)] σ (QM σ (nx a (up (aD a) 3 q 1)) (nI (mk (he (up (aD a) 3 q 1)) 12)) 0) := by
  refine Cs.of gmX10_die (Nat.le_of_ble_eq_true rfl) ?_
  show Ws (true, l9) sc mX10_die 0 0 0 0 0 [(0, .ref 53), (1, .int (nI q))] [] (mz σ [] []) (QM σ (nx a (up (aD a) 3 q 1)) (nI (mk (he (up (aD a) 3 q 1)) 12)) 0)
  have hV := hA.1
  have hC := vC hV
  have hM := hI.1
  refine r_aload_n rfl rfl ?_
  refine r_iload_n rfl rfl ?_
  refine s_virI [.int (nI q)] [] rfl lkX10_249 rfl rfl rfl (k_noPerson_in (hM := hI.1) hV hq) rfl rfl (Nat.le_refl _) (Nat.le_refl _) rfl (rI (e1 := nI 0) rfl ?_)
  refine m_mz (L' := [(53, (aup (σ.1 53) 0 (nI 0)))]) (M' := []) rfl rfl ?_
  refine n_if_eq (tgt := 10) rfl rfl (by decide) (fun _ => ?_) (fun hq => absurd hq (by decide))
  refine r_aload_n rfl rfl ?_
  refine s_virV [] [] rfl lkX10_337 rfl rfl rfl (k_keeps hM hA.2.1 hI.2.1.1 hI.2.2.1) rfl rfl (Nat.le_refl _) (Nat.le_refl _) rfl ?_
  rintro _ ⟨f73, f53, rfl, hk53, hk73⟩
  refine m_mz (L' := [(53, f53), (73, f73)]) (M' := []) rfl rfl ?_
  refine r_aload_n rfl rfl ?_
  refine s_getR (r := 54) rfl flX10_7 rfl rfl ?_
  refine n_bipush 10 rfl (by decide) ?_
  refine n_iconst 4 rfl ?_
  refine r_iload_n rfl rfl ?_
  refine n_imul rfl ?_
  refine n_iadd rfl ?_
  refine n_iconst 2 rfl ?_
  refine n_iadd rfl ?_
  refine n_iconst 1 rfl ?_
  refine m_iast (L' := [(53, f53), (73, f73), (54, (aup (σ.1 54) ((10 + (4 * q)) + 2) (nI 1)))]) rfl rfl (by omega) rfl ?_
  refine r_aload_n rfl rfl ?_
  have hV2 : Vd (up (aD a) 3 q 1) := Vdup hV rfl ⟨fun z => absurd z (by decide), fun _ => Nat.le_refl 1, fun z => absurd z (by decide), fun z => absurd z (by decide), fun z => absurd z (by decide), fun z => absurd z (by decide), fun z => absurd z (by decide), fun z => absurd z (by decide), fun z => absurd z (by decide)⟩
  have hSm : Sm (aD a) (up (aD a) 3 q 1) := Smup rfl
  have hM2 : MR ((aup (σ.1 54) ((10 + (4 * q)) + 2) (nI 1))) (up (aD a) 3 q 1) := MRup hM (by omega) (mPp (by omega) (by decide)) rfl
  refine s_virI [] [] rfl lkX10_326 rfl rfl rfl (k_heirSet (a := nx a (up (aD a) 3 q 1)) hV2 hM2) rfl rfl (Nat.le_refl _) (Nat.le_refl _) rfl ?_
  rintro _ _ ⟨g0, g1, g2, g3, g4, g5, g6, g7, g8, g9, g10, g11, l0, l1, l2, rfl, rfl⟩
  refine m_mz (L' := [(53, f53), (73, f73), (54, (aup (σ.1 54) ((10 + (4 * q)) + 2) (nI 1))), (60, g0), (61, g1), (62, g2), (64, g3), (63, g4), (66, g5), (68, g6), (65, g7), (70, g8), (71, g9), (72, g10), (67, g11)]) (M' := [(59, l0), (69, l1), (53, l2)]) rfl rfl ?_
  exact s_ret (st := []) rfl rfl rfl (Nat.zero_le _) (Nat.zero_le _) (⟨_, rfl, rfl, hk53.2 0 (by decide), FrC_mz rfl rfl, MI9_nx hI hSm hM2 ⟨hk53.1, hk53.2 6 (by decide), hk53.2 14 (by decide)⟩ hk73 ⟨rfl, rfl, rfl, rfl⟩⟩)

theorem k_setAge {l9 : Bool} {sc : SC} {σ : SS} {q v9 : Nat} {a : AB} (hA : AV a) (hI : MI9 σ a) (hq : q < aD a 0 0) (hv : v9 ≤ 120) : Cs (true, l9) sc mX10_setAge 0 0 [.ref 53, .int (nI q), .int (nI v9)] σ (QM σ (nx a (up (aD a) 2 q v9)) (nI (aD a 2 q)) 0) := by
  refine Cs.of gmX10_setAge (Nat.le_of_ble_eq_true rfl) ?_
  show Ws (true, l9) sc mX10_setAge 0 0 0 0 0 [(0, .ref 53), (1, .int (nI q)), (2, .int (nI v9))] [] (mz σ [] []) (QM σ (nx a (up (aD a) 2 q v9)) (nI (aD a 2 q)) 0)
  have hV := hA.1
  have hC := vC hV
  have hM := hI.1
  refine r_aload_n rfl rfl ?_
  refine r_iload_n rfl rfl ?_
  refine s_virI [.int (nI q)] [] rfl lkX10_249 rfl rfl rfl (k_noPerson_in (hM := hI.1) hV hq) rfl rfl (Nat.le_refl _) (Nat.le_refl _) rfl (rI (e1 := nI 0) rfl ?_)
  refine m_mz (L' := [(53, (aup (σ.1 53) 0 (nI 0)))]) (M' := []) rfl rfl ?_
  refine n_if_ne (tgt := 31) rfl rfl (by decide) (fun hq => absurd hq (by decide)) (fun _ => ?_)
  refine r_aload_n rfl rfl ?_
  refine r_iload_n rfl rfl ?_
  refine n_iconst 0 rfl ?_
  refine n_bipush 120 rfl (by decide) ?_
  refine s_staI [.int (nI v9), .int (nI 0), .int (nI 120)] [.ref 53] rfl lkX10_113 (k_within_in (by omega) (by omega) (by decide)) rfl rfl (Nat.le_refl _) (Nat.le_refl _) rfl (rI (e1 := nI 1) rfl ?_)
  refine n_if_ne (tgt := 23) rfl rfl (by decide) (fun _ => ?_) (fun hq => absurd hq (by decide))
  refine n_iconst 0 rfl ?_
  refine n_iconst 2 rfl ?_
  refine s_virI [.int (nI 0), .int (nI 2)] [] rfl lkX10_235 rfl rfl rfl (k_tI_no rfl) rfl rfl (Nat.le_refl _) (Nat.le_refl _) rfl (rI (e1 := nI 0) rfl ?_)
  refine n_if_eq (tgt := 33) rfl rfl (by decide) (fun _ => ?_) (fun hq => absurd hq (by decide))
  refine r_aload_n rfl rfl ?_
  refine s_virV [] [] rfl lkX10_337 rfl rfl rfl (k_keeps hM hA.2.1 hI.2.1.1 hI.2.2.1) rfl rfl (Nat.le_refl _) (Nat.le_refl _) rfl ?_
  rintro _ ⟨f73, f53, rfl, hk53, hk73⟩
  refine m_mz (L' := [(53, f53), (73, f73)]) (M' := []) rfl rfl ?_
  refine r_aload_n rfl rfl ?_
  refine r_iload_n rfl rfl ?_
  refine n_iconst 1 rfl ?_
  refine s_virI [.int (nI q), .int (nI 1)] [] rfl lkX10_245 rfl rfl rfl (c_of (x := nI (aD a 2 q)) (by omega) (by omega) (M1 hM (by omega))) rfl rfl (Nat.le_refl _) (Nat.le_refl _) rfl (rI (e1 := nI (aD a 2 q)) rfl ?_)
  refine r_istore_n (lv' := [(3, .int (nI (aD a 2 q))), (0, .ref 53), (1, .int (nI q)), (2, .int (nI v9))]) rfl rfl (Nat.le_of_ble_eq_true rfl) rfl ?_
  refine r_aload_n rfl rfl ?_
  refine s_getR (r := 54) rfl flX10_7 rfl rfl ?_
  refine n_bipush 10 rfl (by decide) ?_
  refine n_iconst 4 rfl ?_
  refine r_iload_n rfl rfl ?_
  refine n_imul rfl ?_
  refine n_iadd rfl ?_
  refine n_iconst 1 rfl ?_
  refine n_iadd rfl ?_
  refine r_iload_n rfl rfl ?_
  refine m_iast (L' := [(53, f53), (73, f73), (54, (aup (σ.1 54) ((10 + (4 * q)) + 1) (nI v9)))]) rfl rfl (by omega) rfl ?_
  refine r_iload_n rfl rfl ?_
  exact s_ret (st := []) rfl rfl rfl (Nat.zero_le _) (Nat.zero_le _) (⟨_, rfl, rfl, hk53.2 0 (by decide), FrC_mz rfl rfl, MI9_nx hI (Smup rfl) (MRup hM (by omega) (mPp (by omega) (by decide)) rfl) ⟨hk53.1, hk53.2 6 (by decide), hk53.2 14 (by decide)⟩ hk73 ⟨rfl, rfl, rfl, rfl⟩⟩)

theorem k_addGift {l9 : Bool} {sc : SC} {σ : SS} {q v9 : Nat} {a : AB} (hA : AV a) (hI : MI9 σ a) (hq : q < aD a 0 0) (hv : v9 ≤ 9999999) (hg : aD a 0 3 < 8) : Cs (true, l9) sc mX10_addGift 0 0 [.ref 53, .int (nI q), .int (nI v9)] σ (QM σ (nx a (up (up (up (aD a) 9 (aD a 0 3) q) 10 (aD a 0 3) v9) 0 3 (aD a 0 3 + 1))) (if he (up (up (up (aD a) 9 (aD a 0 3) q) 10 (aD a 0 3) v9) 0 3 (aD a 0 3 + 1)) q = true then sv (up (up (up (aD a) 9 (aD a 0 3) q) 10 (aD a 0 3) v9) 0 3 (aD a 0 3 + 1)) q else -1) 0) := by
  refine Cs.of gmX10_addGift (Nat.le_of_ble_eq_true rfl) ?_
  show Ws (true, l9) sc mX10_addGift 0 0 0 0 0 [(0, .ref 53), (1, .int (nI q)), (2, .int (nI v9))] [] (mz σ [] []) (QM σ (nx a (up (up (up (aD a) 9 (aD a 0 3) q) 10 (aD a 0 3) v9) 0 3 (aD a 0 3 + 1))) (if he (up (up (up (aD a) 9 (aD a 0 3) q) 10 (aD a 0 3) v9) 0 3 (aD a 0 3 + 1)) q = true then sv (up (up (up (aD a) 9 (aD a 0 3) q) 10 (aD a 0 3) v9) 0 3 (aD a 0 3 + 1)) q else -1) 0)
  have hV := hA.1
  have hC := vC hV
  have hM := hI.1
  refine r_aload_n rfl rfl ?_
  refine r_iload_n rfl rfl ?_
  refine s_virI [.int (nI q)] [] rfl lkX10_249 rfl rfl rfl (k_noPerson_in (hM := hI.1) hV hq) rfl rfl (Nat.le_refl _) (Nat.le_refl _) rfl (rI (e1 := nI 0) rfl ?_)
  refine m_mz (L' := [(53, (aup (σ.1 53) 0 (nI 0)))]) (M' := []) rfl rfl ?_
  refine n_if_ne (tgt := 55) rfl rfl (by decide) (fun hq => absurd hq (by decide)) (fun _ => ?_)
  refine r_aload_n rfl rfl ?_
  refine r_iload_n rfl rfl ?_
  refine n_iconst 0 rfl ?_
  refine r_ldc (v := nI 9999999) rfl kcX10_187 ?_
  refine s_staI [.int (nI v9), .int (nI 0), .int (nI 9999999)] [.ref 53] rfl lkX10_113 (k_within_in (by omega) (by omega) (by decide)) rfl rfl (Nat.le_refl _) (Nat.le_refl _) rfl (rI (e1 := nI 1) rfl ?_)
  refine n_if_ne (tgt := 23) rfl rfl (by decide) (fun _ => ?_) (fun hq => absurd hq (by decide))
  refine n_iconst 0 rfl ?_
  refine n_iconst 2 rfl ?_
  refine s_virI [.int (nI 0), .int (nI 2)] [] rfl lkX10_235 rfl rfl rfl (k_tI_no rfl) rfl rfl (Nat.le_refl _) (Nat.le_refl _) rfl (rI (e1 := nI 0) rfl ?_)
  refine n_if_ne (tgt := 55) rfl rfl (by decide) (fun hq => absurd hq (by decide)) (fun _ => ?_)
  refine r_aload_n rfl rfl ?_
  refine r_aload_n rfl rfl ?_
  refine s_getR (r := 54) rfl flX10_7 rfl rfl ?_
  refine n_iconst 3 rfl ?_
  refine s_iald (x := nI ((aD a) 0 3)) rfl rfl (by decide) (MRat hM 0 3 (by decide) (by decide)) ?_
  refine n_bipush 8 rfl (by decide) ?_
  refine n_icmp_ne (tgt := 47) rfl rfl (by omega) (by omega) (fun _ => ?_) (fun hq => absurd hq (by omega))
  refine n_iconst 0 rfl ?_
  refine n_iconst 3 rfl ?_
  refine s_virI [.int (nI 0), .int (nI 3)] [] rfl lkX10_235 rfl rfl rfl (k_tI_no rfl) rfl rfl (Nat.le_refl _) (Nat.le_refl _) rfl (rI (e1 := nI 0) rfl ?_)
  refine n_if_eq (tgt := 57) rfl rfl (by decide) (fun _ => ?_) (fun hq => absurd hq (by decide))
  refine r_aload_n rfl rfl ?_
  refine s_virV [] [] rfl lkX10_337 rfl rfl rfl (k_keeps hM hA.2.1 hI.2.1.1 hI.2.2.1) rfl rfl (Nat.le_refl _) (Nat.le_refl _) rfl ?_
  rintro _ ⟨f73, f53, rfl, hk53, hk73⟩
  refine m_mz (L' := [(53, f53), (73, f73)]) (M' := []) rfl rfl ?_
  refine n_bipush 90 rfl (by decide) ?_
  refine n_iconst 2 rfl ?_
  refine r_aload_n rfl rfl ?_
  refine s_getR (r := 54) rfl flX10_7 rfl rfl ?_
  refine n_iconst 3 rfl ?_
  refine s_iald (x := nI ((aD a) 0 3)) rfl rfl (by decide) (MRat hM 0 3 (by decide) (by decide)) ?_
  refine n_imul rfl ?_
  refine n_iadd rfl ?_
  refine r_istore_n (lv' := [(3, .int (nI (90 + (2 * ((aD a) 0 3))))), (0, .ref 53), (1, .int (nI q)), (2, .int (nI v9))]) rfl rfl (Nat.le_of_ble_eq_true rfl) rfl ?_
  refine r_aload_n rfl rfl ?_
  refine s_getR (r := 54) rfl flX10_7 rfl rfl ?_
  refine r_iload_n rfl rfl ?_
  refine r_iload_n rfl rfl ?_
  refine m_iast (L' := [(53, f53), (73, f73), (54, (aup (σ.1 54) (90 + (2 * ((aD a) 0 3))) (nI q)))]) rfl rfl (by omega) rfl ?_
  refine r_aload_n rfl rfl ?_
  refine s_getR (r := 54) rfl flX10_7 rfl rfl ?_
  refine r_iload_n rfl rfl ?_
  refine n_iconst 1 rfl ?_
  refine n_iadd rfl ?_
  refine r_iload_n rfl rfl ?_
  refine m_iast (L' := [(53, f53), (73, f73), (54, (aup (aup (σ.1 54) (90 + (2 * ((aD a) 0 3))) (nI q)) ((90 + (2 * ((aD a) 0 3))) + 1) (nI v9)))]) rfl rfl (by omega) rfl ?_
  have hg3 : (aup (aup (σ.1 54) (90 + (2 * ((aD a) 0 3))) (nI q)) ((90 + (2 * ((aD a) 0 3))) + 1) (nI v9)) 3 = nI (aD a 0 3) := by rw [aup_n _ _ (by omega), aup_n _ _ (by omega)]; exact MRat hM 0 3 (by decide) (by decide)
  refine r_aload_n rfl rfl ?_
  refine s_getR (r := 54) rfl flX10_7 rfl rfl ?_
  refine n_iconst 3 rfl ?_
  refine r_dup2 rfl rfl rfl ?_
  refine s_iald (x := nI (aD a 0 3)) rfl rfl (by decide) hg3 ?_
  refine n_iconst 1 rfl ?_
  refine n_iadd rfl ?_
  refine m_iast (L' := [(53, f53), (73, f73), (54, (aup (aup (aup (σ.1 54) (90 + (2 * ((aD a) 0 3))) (nI q)) ((90 + (2 * ((aD a) 0 3))) + 1) (nI v9)) 3 (nI ((aD a 0 3) + 1))))]) rfl rfl (by decide) rfl ?_
  refine r_aload_n rfl rfl ?_
  refine r_iload_n rfl rfl ?_
  have hV2 : Vd (up (up (up (aD a) 9 (aD a 0 3) q) 10 (aD a 0 3) v9) 0 3 (aD a 0 3 + 1)) := Vdup (Vdup (Vdup hV rfl ⟨fun z => absurd z (by decide), fun z => absurd z (by decide), fun z => absurd z (by decide), fun z => absurd z (by decide), fun z => absurd z (by decide), fun z => absurd z (by decide), fun _ => by omega, fun z => absurd z (by decide), fun z => absurd z (by decide)⟩) rfl ⟨fun z => absurd z (by decide), fun z => absurd z (by decide), fun z => absurd z (by decide), fun z => absurd z (by decide), fun z => absurd z (by decide), fun z => absurd z (by decide), fun z => absurd z (by decide), fun _ => hv, fun z => absurd z (by decide)⟩) rfl ⟨fun z => absurd z (by decide), fun z => absurd z (by decide), fun z => absurd z (by decide), fun z => absurd z (by decide), fun z => absurd z (by decide), fun z => absurd z (by decide), fun z => absurd z (by decide), fun z => absurd z (by decide), fun _ => ⟨by omega, by omega, by omega⟩⟩
  have hSm : Sm (aD a) (up (up (up (aD a) 9 (aD a 0 3) q) 10 (aD a 0 3) v9) 0 3 (aD a 0 3 + 1)) := (Smup rfl).tr ((Smup rfl).tr (Smup rfl))
  have hM2 : MR ((aup (aup (aup (σ.1 54) (90 + (2 * ((aD a) 0 3))) (nI q)) ((90 + (2 * ((aD a) 0 3))) + 1) (nI v9)) 3 (nI ((aD a 0 3) + 1)))) (up (up (up (aD a) 9 (aD a 0 3) q) 10 (aD a 0 3) v9) 0 3 (aD a 0 3 + 1)) := MRup (MRup (MRup hM (by omega) (mPg (w := 0) hg (by decide)) rfl) (by omega) (mPg (w := 1) hg (by decide)) rfl) (by decide) (mP0 (by decide)) rfl
  have he2 : (up (up (up (aD a) 9 (aD a 0 3) q) 10 (aD a 0 3) v9) 0 3 (aD a 0 3 + 1)) 0 3 = aD a 0 3 + 1 := up_s _ _ _ _
  have he0 : (up (up (up (aD a) 9 (aD a 0 3) q) 10 (aD a 0 3) v9) 0 3 (aD a 0 3 + 1)) 0 0 = aD a 0 0 := hSm.1.1
  generalize hee : up (up (up (aD a) 9 (aD a 0 3) q) 10 (aD a 0 3) v9) 0 3 (aD a 0 3 + 1) = e9 at *
  refine s_virI [.int (nI q)] [] rfl lkX10_340 rfl rfl rfl (k_shareOf hV2 hM2 (by omega)) rfl rfl (Nat.le_refl _) (Nat.le_refl _) rfl ?_
  rintro _ _ ⟨g0, g1, g2, g3, g4, g5, g6, g7, g8, g9, g10, g11, l0, l1, l2, rfl, rfl⟩
  refine m_mz (L' := [(53, f53), (73, f73), (54, (aup (aup (aup (σ.1 54) (90 + (2 * ((aD a) 0 3))) (nI q)) ((90 + (2 * ((aD a) 0 3))) + 1) (nI v9)) 3 (nI ((aD a 0 3) + 1)))), (60, g0), (61, g1), (62, g2), (64, g3), (63, g4), (66, g5), (68, g6), (65, g7), (70, g8), (71, g9), (72, g10), (67, g11)]) (M' := [(59, l0), (69, l1), (53, l2)]) rfl rfl ?_
  exact s_ret (st := []) rfl rfl rfl (Nat.zero_le _) (Nat.zero_le _) (⟨_, rfl, rfl, hk53.2 0 (by decide), FrC_mz rfl rfl, MI9_nx hI hSm hM2 ⟨hk53.1, hk53.2 6 (by decide), hk53.2 14 (by decide)⟩ hk73 ⟨rfl, rfl, rfl, rfl⟩⟩)

theorem k_addDebt {l9 : Bool} {sc : SC} {σ : SS} {q v9 : Nat} {a : AB} (hA : AV a) (hI : MI9 σ a) (hq0 : 1 ≤ q) (hq : q ≤ 5) (hv : v9 ≤ 9999999) (hg : aD a 0 2 < 8) : Cs (true, l9) sc mX10_addDebt 0 0 [.ref 53, .int (nI q), .int (nI v9)] σ (QM σ (nx a (up (up (up (aD a) 7 (aD a 0 2) q) 8 (aD a 0 2) v9) 0 2 (aD a 0 2 + 1))) (nI (pd (up (up (up (aD a) 7 (aD a 0 2) q) 8 (aD a 0 2) v9) 0 2 (aD a 0 2 + 1)) (aD a 0 2))) 0) := by
  refine Cs.of gmX10_addDebt (Nat.le_of_ble_eq_true rfl) ?_
  show Ws (true, l9) sc mX10_addDebt 0 0 0 0 0 [(0, .ref 53), (1, .int (nI q)), (2, .int (nI v9))] [] (mz σ [] []) (QM σ (nx a (up (up (up (aD a) 7 (aD a 0 2) q) 8 (aD a 0 2) v9) 0 2 (aD a 0 2 + 1))) (nI (pd (up (up (up (aD a) 7 (aD a 0 2) q) 8 (aD a 0 2) v9) 0 2 (aD a 0 2 + 1)) (aD a 0 2))) 0)
  have hV := hA.1
  have hC := vC hV
  have hM := hI.1
  refine r_aload_n rfl rfl ?_
  refine n_iconst 0 rfl ?_
  refine m_putI (L' := [(53, (aup (σ.1 53) 0 (nI 0)))]) rfl flX10_89 rfl rfl (okv_i _) rfl ?_
  refine r_aload_n rfl rfl ?_
  refine r_iload_n rfl rfl ?_
  refine n_iconst 1 rfl ?_
  refine n_iconst 5 rfl ?_
  refine s_staI [.int (nI q), .int (nI 1), .int (nI 5)] [.ref 53] rfl lkX10_113 (k_within_in hq0 hq (by decide)) rfl rfl (Nat.le_refl _) (Nat.le_refl _) rfl (rI (e1 := nI 1) rfl ?_)
  refine n_if_eq (tgt := 25) rfl rfl (by decide) (fun hq => absurd hq (by decide)) (fun _ => ?_)
  refine r_iload_n rfl rfl ?_
  refine n_iconst 0 rfl ?_
  refine r_ldc (v := nI 9999999) rfl kcX10_187 ?_
  refine s_staI [.int (nI v9), .int (nI 0), .int (nI 9999999)] [.ref 53] rfl lkX10_113 (k_within_in (by omega) hv (by decide)) rfl rfl (Nat.le_refl _) (Nat.le_refl _) rfl (rI (e1 := nI 1) rfl ?_)
  refine n_if_ne (tgt := 29) rfl rfl (by decide) (fun _ => ?_) (fun hq => absurd hq (by decide))
  refine n_iconst 0 rfl ?_
  refine n_iconst 1 rfl ?_
  refine s_virI [.int (nI 0), .int (nI 1)] [] rfl lkX10_235 rfl rfl rfl (k_tI_no rfl) rfl rfl (Nat.le_refl _) (Nat.le_refl _) rfl (rI (e1 := nI 0) rfl ?_)
  refine n_if_ne (tgt := 61) rfl rfl (by decide) (fun hq => absurd hq (by decide)) (fun _ => ?_)
  refine r_aload_n rfl rfl ?_
  refine r_aload_n rfl rfl ?_
  refine s_getR (r := 54) rfl flX10_7 rfl rfl ?_
  refine n_iconst 2 rfl ?_
  refine s_iald (x := nI ((aD a) 0 2)) rfl rfl (by decide) (MRat hM 0 2 (by decide) (by decide)) ?_
  refine n_bipush 8 rfl (by decide) ?_
  refine n_icmp_ne (tgt := 53) rfl rfl (by omega) (by omega) (fun _ => ?_) (fun hq => absurd hq (by omega))
  refine n_iconst 0 rfl ?_
  refine n_iconst 2 rfl ?_
  refine s_virI [.int (nI 0), .int (nI 2)] [] rfl lkX10_235 rfl rfl rfl (k_tI_no rfl) rfl rfl (Nat.le_refl _) (Nat.le_refl _) rfl (rI (e1 := nI 0) rfl ?_)
  refine n_if_eq (tgt := 63) rfl rfl (by decide) (fun _ => ?_) (fun hq => absurd hq (by decide))
  refine r_aload_n rfl rfl ?_
  refine s_virV [] [] rfl lkX10_337 rfl rfl rfl (k_keeps hM hA.2.1 hI.2.1.1 hI.2.2.1) rfl rfl (Nat.le_refl _) (Nat.le_refl _) rfl ?_
  rintro _ ⟨f73, f53, rfl, hk53, hk73⟩
  refine m_mz (L' := [(53, f53), (73, f73)]) (M' := []) rfl rfl ?_
  refine n_bipush 74 rfl (by decide) ?_
  refine n_iconst 2 rfl ?_
  refine r_aload_n rfl rfl ?_
  refine s_getR (r := 54) rfl flX10_7 rfl rfl ?_
  refine n_iconst 2 rfl ?_
  refine s_iald (x := nI ((aD a) 0 2)) rfl rfl (by decide) (MRat hM 0 2 (by decide) (by decide)) ?_
  refine n_imul rfl ?_
  refine n_iadd rfl ?_
  refine r_istore_n (lv' := [(3, .int (nI (74 + (2 * ((aD a) 0 2))))), (0, .ref 53), (1, .int (nI q)), (2, .int (nI v9))]) rfl rfl (Nat.le_of_ble_eq_true rfl) rfl ?_
  refine r_aload_n rfl rfl ?_
  refine s_getR (r := 54) rfl flX10_7 rfl rfl ?_
  refine r_iload_n rfl rfl ?_
  refine r_iload_n rfl rfl ?_
  refine m_iast (L' := [(53, f53), (73, f73), (54, (aup (σ.1 54) (74 + (2 * ((aD a) 0 2))) (nI q)))]) rfl rfl (by omega) rfl ?_
  refine r_aload_n rfl rfl ?_
  refine s_getR (r := 54) rfl flX10_7 rfl rfl ?_
  refine r_iload_n rfl rfl ?_
  refine n_iconst 1 rfl ?_
  refine n_iadd rfl ?_
  refine r_iload_n rfl rfl ?_
  refine m_iast (L' := [(53, f53), (73, f73), (54, (aup (aup (σ.1 54) (74 + (2 * ((aD a) 0 2))) (nI q)) ((74 + (2 * ((aD a) 0 2))) + 1) (nI v9)))]) rfl rfl (by omega) rfl ?_
  have hrk : ∀ k, k < aD a 0 2 + 1 → 1 ≤ up (up (aD a) 7 (aD a 0 2) q) 8 (aD a 0 2) v9 7 k := by
    intro k hk
    rw [up_n1 _ _ (by decide)]
    by_cases z : k = aD a 0 2
    · rw [z, up_s]; exact hq0
    · rw [up_n2 _ _ z]; exact vR hV k (by omega)
  have hg3 : (aup (aup (σ.1 54) (74 + (2 * ((aD a) 0 2))) (nI q)) ((74 + (2 * ((aD a) 0 2))) + 1) (nI v9)) 2 = nI (aD a 0 2) := by rw [aup_n _ _ (by omega), aup_n _ _ (by omega)]; exact MRat hM 0 2 (by decide) (by decide)
  refine r_aload_n rfl rfl ?_
  refine s_getR (r := 54) rfl flX10_7 rfl rfl ?_
  refine n_iconst 2 rfl ?_
  refine r_dup2 rfl rfl rfl ?_
  refine s_iald (x := nI (aD a 0 2)) rfl rfl (by decide) hg3 ?_
  refine n_iconst 1 rfl ?_
  refine n_iadd rfl ?_
  refine m_iast (L' := [(53, f53), (73, f73), (54, (aup (aup (aup (σ.1 54) (74 + (2 * ((aD a) 0 2))) (nI q)) ((74 + (2 * ((aD a) 0 2))) + 1) (nI v9)) 2 (nI ((aD a 0 2) + 1))))]) rfl rfl (by decide) rfl ?_
  refine r_aload_n rfl rfl ?_
  have hV2 : Vd (up (up (up (aD a) 7 (aD a 0 2) q) 8 (aD a 0 2) v9) 0 2 (aD a 0 2 + 1)) := Vdup (Vdup (Vdup hV rfl ⟨fun z => absurd z (by decide), fun z => absurd z (by decide), fun z => absurd z (by decide), fun z => absurd z (by decide), fun _ => ⟨hq0, hq⟩, fun z => absurd z (by decide), fun z => absurd z (by decide), fun z => absurd z (by decide), fun z => absurd z (by decide)⟩) rfl ⟨fun z => absurd z (by decide), fun z => absurd z (by decide), fun z => absurd z (by decide), fun z => absurd z (by decide), fun z => absurd z (by decide), fun _ => hv, fun z => absurd z (by decide), fun z => absurd z (by decide), fun z => absurd z (by decide)⟩) rfl ⟨fun z => absurd z (by decide), fun z => absurd z (by decide), fun z => absurd z (by decide), fun z => absurd z (by decide), fun z => absurd z (by decide), fun z => absurd z (by decide), fun z => absurd z (by decide), fun z => absurd z (by decide), fun _ => ⟨by omega, by omega, fun _ => ⟨by omega, hrk⟩⟩⟩
  have hSm : Sm (aD a) (up (up (up (aD a) 7 (aD a 0 2) q) 8 (aD a 0 2) v9) 0 2 (aD a 0 2 + 1)) := (Smup rfl).tr ((Smup rfl).tr (Smup rfl))
  have hM2 : MR ((aup (aup (aup (σ.1 54) (74 + (2 * ((aD a) 0 2))) (nI q)) ((74 + (2 * ((aD a) 0 2))) + 1) (nI v9)) 2 (nI ((aD a 0 2) + 1)))) (up (up (up (aD a) 7 (aD a 0 2) q) 8 (aD a 0 2) v9) 0 2 (aD a 0 2 + 1)) := MRup (MRup (MRup hM (by omega) (mPd (w := 0) hg (by decide)) rfl) (by omega) (mPd (w := 1) hg (by decide)) rfl) (by decide) (mP0 (by decide)) rfl
  have he2 : (up (up (up (aD a) 7 (aD a 0 2) q) 8 (aD a 0 2) v9) 0 2 (aD a 0 2 + 1)) 0 2 = aD a 0 2 + 1 := up_s _ _ _ _
  have he0 : (up (up (up (aD a) 7 (aD a 0 2) q) 8 (aD a 0 2) v9) 0 2 (aD a 0 2 + 1)) 0 0 = aD a 0 0 := hSm.1.1
  generalize hee : up (up (up (aD a) 7 (aD a 0 2) q) 8 (aD a 0 2) v9) 0 2 (aD a 0 2 + 1) = e9 at *
  refine s_virV [] [] rfl lkX10_323 rfl rfl rfl (c_settles (d := e9) hM2 hV2) rfl rfl (Nat.le_refl _) (Nat.le_refl _) rfl ?_
  rintro _ ⟨g0, g1, g2, g3, g4, g5, g6, g7, g8, g9, g10, g11, l0, l1, l2, rfl, hMS, h12⟩
  refine m_mz (L' := [(53, f53), (73, f73), (54, (aup (aup (aup (σ.1 54) (74 + (2 * ((aD a) 0 2))) (nI q)) ((74 + (2 * ((aD a) 0 2))) + 1) (nI v9)) 2 (nI ((aD a 0 2) + 1)))), (67, g11), (72, g10), (71, g9), (70, g8), (65, g7), (68, g6), (66, g5), (63, g4), (64, g3), (62, g2), (61, g1), (60, g0)]) (M' := [(53, l2), (69, l1), (59, l0)]) rfl rfl ?_
  have hX : MSE g3 g2 g4 g7 g5 g11 g6 g8 g9 g10 l1 l2 (e9) := hMS
  obtain ⟨x1, x2, x3, x4, x5, x6, x7, x8, x9, x10, x11, x12⟩ := hX
  refine r_aload_n rfl rfl ?_
  refine s_getR (r := 62) rfl flX10_41 rfl rfl ?_
  refine r_aload_n rfl rfl ?_
  refine s_getR (r := 54) rfl flX10_7 rfl rfl ?_
  refine n_iconst 2 rfl ?_
  refine s_iald (x := nI (aD a 0 2 + 1)) rfl rfl (by decide) rfl ?_
  refine n_iconst 1 rfl ?_
  refine n_isub rfl (by omega) ?_
  refine r_top (y := nI (aD a 0 2)) (by rw [Nat.add_sub_cancel]) ?_
  refine s_iald (x := nI (pd e9 (aD a 0 2))) rfl rfl (by omega) (x2 _ (by omega)) ?_
  exact s_ret (st := []) rfl rfl rfl (Nat.zero_le _) (Nat.zero_le _) (⟨_, rfl, rfl, hk53.2 0 (by decide), FrC_mz rfl rfl, MI9_nx hI hSm hM2 ⟨hk53.1, hk53.2 6 (by decide), hk53.2 14 (by decide)⟩ hk73 ⟨rfl, rfl, rfl, rfl⟩⟩)

theorem k_setValue {l9 : Bool} {sc : SC} {σ : SS} {q v9 : Nat} {a : AB} (hA : AV a) (hI : MI9 σ a) (hq : q < aD a 0 1) (hv : v9 ≤ 9999999) : Cs (true, l9) sc mX10_setValue 0 0 [.ref 53, .int (nI q), .int (nI v9)] σ (QM σ (nx a (up (aD a) 5 q v9)) (nI (nts (up (aD a) 5 q v9))) 0) := by
  refine Cs.of gmX10_setValue (Nat.le_of_ble_eq_true rfl) ?_
  show Ws (true, l9) sc mX10_setValue 0 0 0 0 0 [(0, .ref 53), (1, .int (nI q)), (2, .int (nI v9))] [] (mz σ [] []) (QM σ (nx a (up (aD a) 5 q v9)) (nI (nts (up (aD a) 5 q v9))) 0)
  have hV := hA.1
  have hC := vC hV
  have hM := hI.1
  refine r_aload_n rfl rfl ?_
  refine n_iconst 0 rfl ?_
  refine m_putI (L' := [(53, (aup (σ.1 53) 0 (nI 0)))]) rfl flX10_89 rfl rfl (okv_i _) rfl ?_
  refine r_aload_n rfl rfl ?_
  refine r_iload_n rfl rfl ?_
  refine r_aload_n rfl rfl ?_
  refine s_getR (r := 54) rfl flX10_7 rfl rfl ?_
  refine n_iconst 1 rfl ?_
  refine s_iald (x := nI ((aD a) 0 1)) rfl rfl (by decide) (MRat hM 0 1 (by decide) (by decide)) ?_
  refine s_virI [.int (nI q), .int (nI ((aD a) 0 1))] [] rfl lkX10_242 rfl rfl rfl (k_no_in rfl hq (by omega)) rfl rfl (Nat.le_refl _) (Nat.le_refl _) rfl (rI (e1 := nI 0) rfl ?_)
  refine n_if_ne (tgt := 42) rfl rfl (by decide) (fun hq => absurd hq (by decide)) (fun _ => ?_)
  refine r_aload_n rfl rfl ?_
  refine r_iload_n rfl rfl ?_
  refine n_iconst 0 rfl ?_
  refine r_ldc (v := nI 9999999) rfl kcX10_187 ?_
  refine s_staI [.int (nI v9), .int (nI 0), .int (nI 9999999)] [.ref 53] rfl lkX10_113 (k_within_in (by omega) (by omega) (by decide)) rfl rfl (Nat.le_refl _) (Nat.le_refl _) rfl (rI (e1 := nI 1) rfl ?_)
  refine n_if_ne (tgt := 34) rfl rfl (by decide) (fun _ => ?_) (fun hq => absurd hq (by decide))
  refine n_iconst 0 rfl ?_
  refine n_iconst 2 rfl ?_
  refine s_virI [.int (nI 0), .int (nI 2)] [] rfl lkX10_235 rfl rfl rfl (k_tI_no rfl) rfl rfl (Nat.le_refl _) (Nat.le_refl _) rfl (rI (e1 := nI 0) rfl ?_)
  refine n_if_eq (tgt := 44) rfl rfl (by decide) (fun _ => ?_) (fun hq => absurd hq (by decide))
  refine r_aload_n rfl rfl ?_
  refine s_virV [] [] rfl lkX10_337 rfl rfl rfl (k_keeps hM hA.2.1 hI.2.1.1 hI.2.2.1) rfl rfl (Nat.le_refl _) (Nat.le_refl _) rfl ?_
  rintro _ ⟨f73, f53, rfl, hk53, hk73⟩
  refine m_mz (L' := [(53, f53), (73, f73)]) (M' := []) rfl rfl ?_
  refine r_aload_n rfl rfl ?_
  refine s_getR (r := 54) rfl flX10_7 rfl rfl ?_
  refine n_bipush 58 rfl (by decide) ?_
  refine n_iconst 2 rfl ?_
  refine r_iload_n rfl rfl ?_
  refine n_imul rfl ?_
  refine n_iadd rfl ?_
  refine r_iload_n rfl rfl ?_
  refine m_iast (L' := [(53, f53), (73, f73), (54, (aup (σ.1 54) (58 + (2 * q)) (nI v9)))]) rfl rfl (by omega) rfl ?_
  refine r_aload_n rfl rfl ?_
  have hV2 : Vd (up (aD a) 5 q v9) := Vdup hV rfl ⟨fun z => absurd z (by decide), fun z => absurd z (by decide), fun z => absurd z (by decide), fun _ => hv, fun z => absurd z (by decide), fun z => absurd z (by decide), fun z => absurd z (by decide), fun z => absurd z (by decide), fun z => absurd z (by decide)⟩
  have hSm : Sm (aD a) (up (aD a) 5 q v9) := Smup rfl
  have hM2 : MR ((aup (σ.1 54) (58 + (2 * q)) (nI v9))) (up (aD a) 5 q v9) := MRup hM (by omega) (mPa (w := 0) (by omega) (by decide)) rfl
  refine s_virV [] [] rfl lkX10_323 rfl rfl rfl (c_settles (d := up (aD a) 5 q v9) hM2 hV2) rfl rfl (Nat.le_refl _) (Nat.le_refl _) rfl ?_
  rintro _ ⟨g0, g1, g2, g3, g4, g5, g6, g7, g8, g9, g10, g11, l0, l1, l2, rfl, hMS, h12⟩
  refine m_mz (L' := [(53, f53), (73, f73), (54, (aup (σ.1 54) (58 + (2 * q)) (nI v9))), (67, g11), (72, g10), (71, g9), (70, g8), (65, g7), (68, g6), (66, g5), (63, g4), (64, g3), (62, g2), (61, g1), (60, g0)]) (M' := [(53, l2), (69, l1), (59, l0)]) rfl rfl ?_
  have hX : MSE g3 g2 g4 g7 g5 g11 g6 g8 g9 g10 l1 l2 (up (aD a) 5 q v9) := hMS
  obtain ⟨x1, x2, x3, x4, x5, x6, x7, x8, x9, x10, x11, x12⟩ := hX
  refine r_aload_n rfl rfl ?_
  refine s_getR (r := 64) rfl flX10_47 rfl rfl ?_
  refine n_iconst 0 rfl ?_
  refine s_iald (x := nI (nts (up (aD a) 5 q v9))) rfl rfl (by decide) x1.1 ?_
  exact s_ret (st := []) rfl rfl rfl (Nat.zero_le _) (Nat.zero_le _) (⟨_, rfl, rfl, hk53.2 0 (by decide), FrC_mz rfl rfl, MI9_nx hI hSm hM2 ⟨hk53.1, hk53.2 6 (by decide), hk53.2 14 (by decide)⟩ hk73 ⟨rfl, rfl, rfl, rfl⟩⟩)

theorem k_setAccrue {l9 : Bool} {sc : SC} {σ : SS} {b : Bool} {a : AB} (hA : AV a) (hI : MI9 σ a)  : Cs (true, l9) sc mX10_setAccrue 0 0 [.ref 53, .int (nI (tb b))] σ (QM σ (nx a (up (aD a) 0 9 (tb b))) (nI (mk (he (up (aD a) 0 9 (tb b))) 12)) 0) := by
  refine Cs.of gmX10_setAccrue (Nat.le_of_ble_eq_true rfl) ?_
  show Ws (true, l9) sc mX10_setAccrue 0 0 0 0 0 [(0, .ref 53), (1, .int (nI (tb b)))] [] (mz σ [] []) (QM σ (nx a (up (aD a) 0 9 (tb b))) (nI (mk (he (up (aD a) 0 9 (tb b))) 12)) 0)
  have hV := hA.1
  have hC := vC hV
  have hM := hI.1
  have hbb := tb_le b
  refine r_aload_n rfl rfl ?_
  refine n_iconst 0 rfl ?_
  refine m_putI (L' := [(53, (aup (σ.1 53) 0 (nI 0)))]) rfl flX10_89 rfl rfl (okv_i _) rfl ?_
  refine r_aload_n rfl rfl ?_
  refine s_virV [] [] rfl lkX10_337 rfl rfl rfl (k_keeps hM hA.2.1 hI.2.1.1 hI.2.2.1) rfl rfl (Nat.le_refl _) (Nat.le_refl _) rfl ?_
  rintro _ ⟨f73, f53, rfl, hk53, hk73⟩
  refine m_mz (L' := [(53, f53), (73, f73)]) (M' := []) rfl rfl ?_
  refine r_aload_n rfl rfl ?_
  refine s_getR (r := 54) rfl flX10_7 rfl rfl ?_
  refine n_bipush 9 rfl (by decide) ?_
  refine r_iload_n rfl rfl ?_
  suffices K : Ws (true, l9) sc mX10_setAccrue 0 0 0 0 24 [(0, .ref 53), (1, .int (nI (tb b)))] [.int (nI (tb b)), .int (nI 9), .ref 54] (mz σ [(53, f53), (73, f73)] []) (QM σ (nx a (up (aD a) 0 9 (tb b))) (nI (mk (he (up (aD a) 0 9 (tb b))) 12)) 0) by
    refine n_if_eq (tgt := 23) rfl rfl (by omega) (fun h2 => ?_) (fun h2 => ?_)
    · refine n_iconst 0 rfl ?_
      exact r_top (by rw [h2]) K
    · refine n_iconst 1 rfl ?_
      refine r_goto (tgt := 24) rfl rfl ?_
      exact r_top (by rw [tb_ne h2]; rfl) K
  have hV2 : Vd (up (aD a) 0 9 (tb b)) := Vdup hV rfl ⟨fun z => absurd z (by decide), fun z => absurd z (by decide), fun z => absurd z (by decide), fun z => absurd z (by decide), fun z => absurd z (by decide), fun z => absurd z (by decide), fun z => absurd z (by decide), fun z => absurd z (by decide), fun _ => ⟨fun _ => by omega, fun z => absurd z (by decide), fun z => absurd z (by decide)⟩⟩
  have hSm : Sm (aD a) (up (aD a) 0 9 (tb b)) := Smup rfl
  refine m_iast (L' := [(53, f53), (73, f73), (54, (aup (σ.1 54) 9 (nI (tb b))))]) rfl rfl (by decide) rfl ?_
  refine r_aload_n rfl rfl ?_
  have hM2 : MR ((aup (σ.1 54) 9 (nI (tb b)))) (up (aD a) 0 9 (tb b)) := MRup hM (by decide) (mP0 (by decide)) rfl
  refine s_virI [] [] rfl lkX10_326 rfl rfl rfl (k_heirSet (a := nx a (up (aD a) 0 9 (tb b))) hV2 hM2) rfl rfl (Nat.le_refl _) (Nat.le_refl _) rfl ?_
  rintro _ _ ⟨g0, g1, g2, g3, g4, g5, g6, g7, g8, g9, g10, g11, l0, l1, l2, rfl, rfl⟩
  refine m_mz (L' := [(53, f53), (73, f73), (54, (aup (σ.1 54) 9 (nI (tb b)))), (60, g0), (61, g1), (62, g2), (64, g3), (63, g4), (66, g5), (68, g6), (65, g7), (70, g8), (71, g9), (72, g10), (67, g11)]) (M' := [(59, l0), (69, l1), (53, l2)]) rfl rfl ?_
  exact s_ret (st := []) rfl rfl rfl (Nat.zero_le _) (Nat.zero_le _) (⟨_, rfl, rfl, hk53.2 0 (by decide), FrC_mz rfl rfl, MI9_nx hI hSm hM2 ⟨hk53.1, hk53.2 6 (by decide), hk53.2 14 (by decide)⟩ hk73 ⟨rfl, rfl, rfl, rfl⟩⟩)

theorem k_undo0 {l9 : Bool} {sc : SC} {σ : SS} {a : AB} (hA : AV a) (hI : MI9 σ a) (h0 : aU a = 0) : Cs (true, l9) sc mX10_undo 0 0 [.ref 53] σ (QM σ a (-1) 0) := by
  refine Cs.of gmX10_undo (Nat.le_of_ble_eq_true rfl) ?_
  show Ws (true, l9) sc mX10_undo 0 0 0 0 0 [(0, .ref 53)] [] (mz σ [] []) (QM σ a (-1) 0)
  have hu := hA.2.1
  refine r_aload_n rfl rfl ?_
  refine n_iconst 0 rfl ?_
  refine m_putI (L' := [(53, (aup (σ.1 53) 0 (nI 0)))]) rfl flX10_89 rfl rfl (okv_i _) rfl ?_
  refine r_aload_n rfl rfl ?_
  refine s_getI (x := nI (aU a)) rfl flX10_232 rfl rfl hI.2.1.1 ?_
  refine n_if_ne (tgt := 14) rfl rfl (by omega) (fun hq => absurd hq (by omega)) (fun _ => ?_)
  refine n_m1 rfl ?_
  exact s_ret (st := []) rfl rfl rfl (Nat.zero_le _) (Nat.zero_le _) (⟨_, rfl, rfl, rfl, FrC_mz rfl rfl, ⟨hI.1, ⟨hI.2.1.1, hI.2.1.2.1, hI.2.1.2.2⟩, hI.2.2.1, hI.2.2.2.1, hI.2.2.2.2.1, hI.2.2.2.2.2.1, hI.2.2.2.2.2.2⟩⟩)

theorem k_undo1 {l9 : Bool} {sc : SC} {σ : SS} {u : Nat} {a : AB} (hA : AV a) (hI : MI9 σ a) (h0 : aU a = u + 1) : Cs (true, l9) sc mX10_undo 0 0 [.ref 53] σ (QM σ (aS a u, (u, aS a), a.2.2) (nI u) 0) := by
  refine Cs.of gmX10_undo (Nat.le_of_ble_eq_true rfl) ?_
  show Ws (true, l9) sc mX10_undo 0 0 0 0 0 [(0, .ref 53)] [] (mz σ [] []) (QM σ (aS a u, (u, aS a), a.2.2) (nI u) 0)
  have hV := hA.1
  have hC := vC hV
  have hM := hI.1
  have hu := hA.2.1
  have hm0 : σ.1 53 32 = nI (u + 1) := by rw [hI.2.1.1, h0]
  have hus := hA.2.2.1 u (by omega)
  refine r_aload_n rfl rfl ?_
  refine n_iconst 0 rfl ?_
  refine m_putI (L' := [(53, (aup (σ.1 53) 0 (nI 0)))]) rfl flX10_89 rfl rfl (okv_i _) rfl ?_
  refine r_aload_n rfl rfl ?_
  refine s_getI (x := nI (u + 1)) rfl flX10_232 rfl rfl hm0 ?_
  refine n_if_ne (tgt := 14) rfl rfl (by omega) (fun _ => ?_) (fun hq => absurd hq (by omega))
  refine r_aload_n rfl rfl ?_
  refine r_dup rfl rfl ?_
  refine s_getI (x := nI (u + 1)) rfl flX10_232 rfl rfl hm0 ?_
  refine n_iconst 1 rfl ?_
  refine n_isub rfl (by omega) ?_
  refine r_top (y := nI u) (by rw [Nat.add_sub_cancel]) ?_
  refine m_putI (L' := [(53, (aup (aup (σ.1 53) 0 (nI 0)) 32 (nI u)))]) rfl flX10_232 rfl rfl (okv_i _) rfl ?_
  refine r_aload_n rfl rfl ?_
  refine s_getR (r := 73) rfl flX10_74 rfl rfl ?_
  refine n_bipush 122 rfl (by decide) ?_
  refine r_aload_n rfl rfl ?_
  refine s_getI (x := nI u) rfl flX10_232 rfl rfl rfl ?_
  refine n_imul rfl ?_
  refine r_aload_n rfl rfl ?_
  refine s_getR (r := 54) rfl flX10_7 rfl rfl ?_
  refine n_iconst 0 rfl ?_
  refine s_staV [.ref 73, .int (nI (122 * u)), .ref 54, .int (nI 0)] [] rfl lkX10_228 (k_copies_73_54 (by omega) (by omega)) rfl rfl (Nat.le_refl _) (Nat.le_refl _) rfl ?_
  rintro _ ⟨f54, rfl, h1, h2⟩
  refine m_mz (L' := [(53, (aup (aup (σ.1 53) 0 (nI 0)) 32 (nI u))), (54, f54)]) (M' := []) rfl rfl ?_
  refine r_aload_n rfl rfl ?_
  refine s_getI (x := nI u) rfl flX10_232 rfl rfl rfl ?_
  exact s_ret (st := []) rfl rfl rfl (Nat.zero_le _) (Nat.zero_le _) (⟨_, rfl, rfl, rfl, FrC_mz rfl rfl, mrow_get (hI.2.2.1 u (by omega)) h1, ⟨rfl, hI.2.1.2.1, hI.2.1.2.2⟩, fun i hi => hI.2.2.1 i (by have hi2 : i < u := hi; omega), hI.2.2.2.1, hI.2.2.2.2.1, hI.2.2.2.2.2.1, fun p hp => hI.2.2.2.2.2.2 p (by have hp2 : p < aS a u 0 0 := hp; rw [hus.2.1.1] at hp2; exact hp2)⟩)

theorem k_save {l9 : Bool} {sc : SC} {σ : SS} {q : Nat} {a : AB} (hA : AV a) (hI : MI9 σ a) (hq : q < 2) : Cs (true, l9) sc mX10_saveSnapshot 0 0 [.ref 53, .int (nI q)] σ (QM σ (aD a, a.2.1, (aup (bS a) q true, aup (bR a) q (aD a)), a.2.2.2) (nI (tb (bS a q))) 0) := by
  refine Cs.of gmX10_saveSnapshot (Nat.le_of_ble_eq_true rfl) ?_
  show Ws (true, l9) sc mX10_saveSnapshot 0 0 0 0 0 [(0, .ref 53), (1, .int (nI q))] [] (mz σ [] []) (QM σ (aD a, a.2.1, (aup (bS a) q true, aup (bR a) q (aD a)), a.2.2.2) (nI (tb (bS a q))) 0)
  have hV := hA.1
  have hC := vC hV
  have hM := hI.1
  refine r_aload_n rfl rfl ?_
  refine r_iload_n rfl rfl ?_
  refine s_virI [.int (nI q)] [] rfl lkX10_343 rfl rfl rfl (k_noSlot_in hq) rfl rfl (Nat.le_refl _) (Nat.le_refl _) rfl (rI (e1 := nI 0) rfl ?_)
  refine m_mz (L' := [(53, (aup (σ.1 53) 0 (nI 0)))]) (M' := []) rfl rfl ?_
  refine n_if_eq (tgt := 10) rfl rfl (by decide) (fun _ => ?_) (fun hq => absurd hq (by decide))
  refine r_aload_n rfl rfl ?_
  refine s_getR (r := 75) rfl flX10_80 rfl rfl ?_
  refine r_iload_n rfl rfl ?_
  refine s_zald (x := nI (tb (bS a q))) rfl rfl (by omega) (hI.2.2.2.1 q hq) ?_
  refine r_istore_n (lv' := [(2, .int (nI (tb (bS a q)))), (0, .ref 53), (1, .int (nI q))]) rfl rfl (Nat.le_of_ble_eq_true rfl) rfl ?_
  refine r_aload_n rfl rfl ?_
  refine s_getR (r := 54) rfl flX10_7 rfl rfl ?_
  refine n_iconst 0 rfl ?_
  refine r_aload_n rfl rfl ?_
  refine s_getR (r := 74) rfl flX10_77 rfl rfl ?_
  refine n_bipush 122 rfl (by decide) ?_
  refine r_iload_n rfl rfl ?_
  refine n_imul rfl ?_
  refine s_staV [.ref 54, .int (nI 0), .ref 74, .int (nI (122 * q))] [] rfl lkX10_228 (k_copies_54_74 (by omega) (by omega)) rfl rfl (Nat.le_refl _) (Nat.le_refl _) rfl ?_
  rintro _ ⟨f74, rfl, h1, h2⟩
  refine m_mz (L' := [(53, (aup (σ.1 53) 0 (nI 0))), (74, f74)]) (M' := []) rfl rfl ?_
  refine r_aload_n rfl rfl ?_
  refine s_getR (r := 75) rfl flX10_80 rfl rfl ?_
  refine r_iload_n rfl rfl ?_
  refine n_iconst 1 rfl ?_
  refine m_zastN (L' := [(53, (aup (σ.1 53) 0 (nI 0))), (74, f74), (75, (aup (σ.1 75) q (nI 1)))]) rfl rfl (by omega) (by decide) rfl ?_
  refine r_iload_n rfl rfl ?_
  exact s_ret (st := []) rfl rfl (nar_tb _) (Nat.zero_le _) (Nat.zero_le _) (⟨_, rfl, rfl, rfl, FrC_mz rfl rfl, hI.1, ⟨hI.2.1.1, hI.2.1.2.1, hI.2.1.2.2⟩, hI.2.2.1, aup_all hI.2.2.2.1 (by show nI 1 = nI (tb (aup (bS a) q true q)); rw [aup_s]; rfl) (fun j _ z => by show nI (tb (bS a j)) = nI (tb (aup (bS a) q true j)); rw [aup_n _ _ z]), mslot_put hI.2.2.2.2.1 hM h1 h2, hI.2.2.2.2.2.1, hI.2.2.2.2.2.2⟩)

theorem k_restore {l9 : Bool} {sc : SC} {σ : SS} {q : Nat} {a : AB} (hA : AV a) (hI : MI9 σ a) (hq : q < 2) (hb : bS a q = true) : Cs (true, l9) sc mX10_restoreSnapshot 0 0 [.ref 53, .int (nI q)] σ (QM σ (bR a q, (0, aS a), a.2.2) (nI (rs (bR a q))) 0) := by
  refine Cs.of gmX10_restoreSnapshot (Nat.le_of_ble_eq_true rfl) ?_
  show Ws (true, l9) sc mX10_restoreSnapshot 0 0 0 0 0 [(0, .ref 53), (1, .int (nI q))] [] (mz σ [] []) (QM σ (bR a q, (0, aS a), a.2.2) (nI (rs (bR a q))) 0)
  have hV := hA.1
  have hC := vC hV
  have hM := hI.1
  have hus := hA.2.2.2.1 q hq hb
  refine r_aload_n rfl rfl ?_
  refine r_iload_n rfl rfl ?_
  refine s_virI [.int (nI q)] [] rfl lkX10_343 rfl rfl rfl (k_noSlot_in hq) rfl rfl (Nat.le_refl _) (Nat.le_refl _) rfl (rI (e1 := nI 0) rfl ?_)
  refine m_mz (L' := [(53, (aup (σ.1 53) 0 (nI 0)))]) (M' := []) rfl rfl ?_
  refine n_if_ne (tgt := 30) rfl rfl (by decide) (fun hq => absurd hq (by decide)) (fun _ => ?_)
  refine r_aload_n rfl rfl ?_
  refine r_aload_n rfl rfl ?_
  refine s_getR (r := 75) rfl flX10_80 rfl rfl ?_
  refine r_iload_n rfl rfl ?_
  refine s_zald (x := nI 1) rfl rfl (by omega) ((hI.2.2.2.1 q hq).trans (by rw [hb]; rfl)) ?_
  refine n_if_ne (tgt := 22) rfl rfl (by decide) (fun _ => ?_) (fun hq => absurd hq (by decide))
  refine n_iconst 0 rfl ?_
  refine n_iconst 2 rfl ?_
  refine s_virI [.int (nI 0), .int (nI 2)] [] rfl lkX10_235 rfl rfl rfl (k_tI_no rfl) rfl rfl (Nat.le_refl _) (Nat.le_refl _) rfl (rI (e1 := nI 0) rfl ?_)
  refine n_if_eq (tgt := 32) rfl rfl (by decide) (fun _ => ?_) (fun hq => absurd hq (by decide))
  refine r_aload_n rfl rfl ?_
  refine s_getR (r := 74) rfl flX10_77 rfl rfl ?_
  refine n_bipush 122 rfl (by decide) ?_
  refine r_iload_n rfl rfl ?_
  refine n_imul rfl ?_
  refine r_aload_n rfl rfl ?_
  refine s_getR (r := 54) rfl flX10_7 rfl rfl ?_
  refine n_iconst 0 rfl ?_
  refine s_staV [.ref 74, .int (nI (122 * q)), .ref 54, .int (nI 0)] [] rfl lkX10_228 (k_copies_74_54 (by omega) (by omega)) rfl rfl (Nat.le_refl _) (Nat.le_refl _) rfl ?_
  rintro _ ⟨f54, rfl, h1, h2⟩
  refine m_mz (L' := [(53, (aup (σ.1 53) 0 (nI 0))), (54, f54)]) (M' := []) rfl rfl ?_
  refine r_aload_n rfl rfl ?_
  refine n_iconst 0 rfl ?_
  refine m_putI (L' := [(53, (aup (aup (σ.1 53) 0 (nI 0)) 32 (nI 0))), (54, f54)]) rfl flX10_232 rfl rfl (okv_i _) rfl ?_
  refine r_aload_n rfl rfl ?_
  have hM2 : MR f54 (bR a q) := mrow_get (hI.2.2.2.2.1 q hq hb) h1
  refine s_virV [] [] rfl lkX10_323 rfl rfl rfl (c_settles (d := bR a q) hM2 hus.1) rfl rfl (Nat.le_refl _) (Nat.le_refl _) rfl ?_
  rintro _ ⟨g0, g1, g2, g3, g4, g5, g6, g7, g8, g9, g10, g11, l0, l1, l2, rfl, hMS, h12⟩
  refine m_mz (L' := [(53, (aup (aup (σ.1 53) 0 (nI 0)) 32 (nI 0))), (54, f54), (67, g11), (72, g10), (71, g9), (70, g8), (65, g7), (68, g6), (66, g5), (63, g4), (64, g3), (62, g2), (61, g1), (60, g0)]) (M' := [(53, l2), (69, l1), (59, l0)]) rfl rfl ?_
  have hX : MSE g3 g2 g4 g7 g5 g11 g6 g8 g9 g10 l1 l2 (bR a q) := hMS
  obtain ⟨x1, x2, x3, x4, x5, x6, x7, x8, x9, x10, x11, x12⟩ := hX
  refine r_aload_n rfl rfl ?_
  refine s_getR (r := 64) rfl flX10_47 rfl rfl ?_
  refine n_iconst 4 rfl ?_
  refine s_iald (x := nI (rs (bR a q))) rfl rfl (by decide) x1.2.2.2.2.1 ?_
  exact s_ret (st := []) rfl rfl rfl (Nat.zero_le _) (Nat.zero_le _) (⟨_, rfl, rfl, rfl, FrC_mz rfl rfl, hM2, ⟨rfl, hI.2.1.2.1, hI.2.1.2.2⟩, fun i hi => absurd hi (Nat.not_lt_zero _), hI.2.2.2.1, hI.2.2.2.2.1, hI.2.2.2.2.2.1, fun p hp => hI.2.2.2.2.2.2 p (by have hp2 : p < bR a q 0 0 := hp; rw [hus.2.1.1] at hp2; exact hp2)⟩)

